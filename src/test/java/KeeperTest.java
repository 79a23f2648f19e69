/** Promises 9 to 13: hire, dismiss, reset, keeper, keeperTime. */
final class KeeperTest {
    private static final Check CHECK = new Check("KeeperTest");

    public static void main(String[] args) {
        hire();
        dismiss();
        reset();
        resetBySeveralKeepers();
        keeper();
        keeperTime();
        CHECK.end();
    }

    private static void hire() {
        TowerFaces tower = new TowerFaces();
        CHECK.due("9: a first keeper", 1, tower.hire(800, 3));
        CHECK.due("9: a second", 2, tower.hire(10, -4));
        CHECK.due("9: a third", 3, tower.hire(700, 1));
        CHECK.due("9: the same start", TowerFaces.NOT_POSSIBLE, tower.hire(700, 2));
        CHECK.due("9: keepers", 3, tower.total(7));
        int[][] keepers = {{5, 800, 3}, {10, 10, -4}, {300, 10, -4}, {750, 700, 1}, {900, 800, 3}};
        for (int[] row : keepers) {
            CHECK.due("9: start at " + row[0], row[1], tower.keeper(row[0], 0));
            CHECK.due("9: wrong at " + row[0], row[2], tower.keeper(row[0], 1));
        }
    }

    private static void dismiss() {
        TowerFaces tower = new TowerFaces();
        tower.hire(10, 5);
        tower.hire(30, -6);
        tower.hire(20, 7);
        CHECK.due("10: no such start", TowerFaces.NO_SUCH, tower.dismiss(15));
        CHECK.due("10: the one in the middle", 7, tower.dismiss(20));
        CHECK.due("10: keepers", 2, tower.total(7));
        CHECK.due("10: twice", TowerFaces.NO_SUCH, tower.dismiss(20));
        CHECK.due("10: the one ahead has the watch", 10, tower.keeper(25, 0));
        CHECK.due("10: the last one stays", -6, tower.keeper(30, 1));
        CHECK.due("10: the first one", 5, tower.dismiss(10));
        CHECK.due("10: the last one has the watch", 30, tower.keeper(12, 0));
    }

    private static void reset() {
        TowerFaces tower = new TowerFaces();
        tower.hire(0, 0);
        tower.pass(10);
        tower.dial(0, 5);
        tower.dial(1, 16);
        tower.dial(2, 4);
        tower.set(1, 6);
        CHECK.due("11: within the tolerance", 0, tower.reset());
        CHECK.due("11: dial", 5, tower.face(0, 0));
        tower.set(1, 5);
        CHECK.due("11: two beyond it", 2, tower.reset());
        int[] dials = {5, 10, 10, 10};
        int[] strains = {30, 0, 0, 30};
        for (int face = 0; face < 4; face++) {
            CHECK.due("11: dial " + face, dials[face], tower.face(face, 0));
            CHECK.due("11: strain " + face, strains[face], tower.face(face, 2));
        }
        CHECK.due("11: faces set", 2, tower.total(6));
        CHECK.due("11: no bell strikes", 0, tower.total(5));
        CHECK.due("11: undo", 4, tower.undo());
        CHECK.due("11: dial undone", 16, tower.face(1, 0));
        CHECK.due("11: the call ahead is not undone", 5, tower.setting(1));
        CHECK.due("11: faces set undone", 0, tower.total(6));
    }

    private static void resetBySeveralKeepers() {
        TowerFaces tower = new TowerFaces();
        tower.hire(5, 20);
        tower.hire(100, -20);
        CHECK.due("11: the watch of the day before", 4, tower.reset());
        CHECK.due("11: the dial of the day before", 700, tower.face(1, 0));
        tower.pass(5);
        tower.reset();
        CHECK.due("11: the watch begins", 25, tower.face(1, 0));
    }

    private static void keeper() {
        TowerFaces tower = new TowerFaces();
        tower.hire(100, 8);
        tower.hire(1300, -9);
        tower.hire(500, 0);
        int[][] rows = {{50, 1300, -9, 50}, {150, 100, 8, 350}, {499, 100, 8, 1}, {500, 500, 0, 800}, {1400, 1300, -9, 140}};
        for (int[] row : rows) {
            for (int part = 0; part < 3; part++) {
                CHECK.due("12: keeper(" + row[0] + ", " + part + ")", row[part + 1], tower.keeper(row[0], part));
            }
        }
    }

    private static void keeperTime() {
        TowerFaces tower = new TowerFaces();
        tower.hire(0, 12);
        CHECK.due("13: at 0", 12, tower.keeperTime());
        tower.pass(300);
        CHECK.due("13: at 300", 312, tower.keeperTime());
        tower.hire(200, -15);
        CHECK.due("13: of the keeper on watch", 285, tower.keeperTime());
        tower.pass(600);
        CHECK.due("13: at 900", 165, tower.keeperTime());
    }
}
