public final class Example {
    public static void main(String[] args) {
        TowerFaces tower = new TowerFaces();
        // Face 3 has a bell too; a keeper, whose watch is 5 minutes slow, begins at 00:00.
        System.out.println(tower.bell(3));         // 1: it has one now
        System.out.println(tower.hire(0, -5));     // 1: keepers
        System.out.println(tower.pass(719));       // 132: strikes of both bells until 11:59
        System.out.println(tower.face(0, 0));      // 695: dial of face 0, which shows 11:35
        System.out.println(tower.face(3, 0));      // 708: dial of face 3, which shows 11:48
        System.out.println(tower.total(8));        // 13: minutes that two faces are apart at most

        System.out.println(tower.coming(0, 0));    // 3: the face whose bell comes next,
        System.out.println(tower.coming(0, 1));    // 12: in how many minutes,
        System.out.println(tower.coming(0, 2));    // 12: and how many times it strikes
        System.out.println(tower.spreadIn(1));     // 0: at noon the keeper resets the faces,
        System.out.println(tower.minutesTo(20));   // 424: then they go apart again
        System.out.println(tower.bestOil());       // 2: the face to oil now
        System.out.println(tower.pass(1));         // 0: strikes at noon
        System.out.println(tower.face(0, 0));      // 715: the slow watch shows 11:55

        // Works from a text: face 2 is set to 06:30, 90 minutes pass, face 0 is oiled.
        for (char sign : "f206:30;w90;o0".toCharArray()) {
            tower.append(sign);
        }
        System.out.println(tower.errorPosition()); // -1000: NONE, the buffer is a text
        System.out.println(tower.work());          // 3: works done
        System.out.println(tower.face(2, 0));      // 476: dial of face 2
        System.out.println(tower.undo());          // 4: recorded states that remain
        System.out.println(tower.face(2, 0));      // 715: the works are undone
        System.out.println(tower.dial(4, 0));      // -1001: NO_SUCH, the faces are 0 to 3
    }
}
