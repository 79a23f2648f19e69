/** All that the calls which change nothing tell of a tower's state. */
final class Answers {
    private static final int TOTALS = 9;
    private static final int FACES = 4;
    private static final int FACE_PARTS = 8;
    private static final int SETTINGS = 3;
    private static final int KEEPER_PARTS = 3;
    private static final int MINUTES_APART = 10;
    private static final int MINUTES_ASKED = 1440 / MINUTES_APART;

    private Answers() {
    }

    static int[] of(TowerFaces tower) {
        int[] answers = new int[TOTALS + FACES * FACE_PARTS + SETTINGS + KEEPER_PARTS * MINUTES_ASKED];
        int place = 0;
        for (int what = 0; what < TOTALS; what++) {
            answers[place++] = tower.total(what);
        }
        for (int face = 0; face < FACES; face++) {
            for (int part = 0; part < FACE_PARTS; part++) {
                answers[place++] = tower.face(face, part);
            }
        }
        for (int setting = 0; setting < SETTINGS; setting++) {
            answers[place++] = tower.setting(setting);
        }
        for (int asked = 0; asked < MINUTES_ASKED; asked++) {
            for (int part = 0; part < KEEPER_PARTS; part++) {
                answers[place++] = tower.keeper(asked * MINUTES_APART, part);
            }
        }
        return answers;
    }

    static void compare(Check check, String promise, int[] due, int[] got) {
        for (int place = 0; place < due.length; place++) {
            check.due(promise + ": answer " + place + " of the state", due[place], got[place]);
        }
    }
}
