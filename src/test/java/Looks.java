/** All that can be asked of a tower's state, one look at a time. No look changes anything. */
final class Looks {
    private static final int TOTALS = 9;
    private static final int FACE_PARTS = 8;
    private static final int FACE_LOOKS = 4 * FACE_PARTS;
    private static final int SETTINGS = 3;
    private static final int KEEPER_PARTS = 3;
    private static final int MINUTES_APART = 120;
    private static final int KEEPER_LOOKS = 1440 / MINUTES_APART * KEEPER_PARTS;
    static final int COUNT = TOTALS + FACE_LOOKS + SETTINGS + KEEPER_LOOKS;

    private Looks() {
    }

    static int ofTotal(int what) {
        return what;
    }

    static int ofFace(int face, int part) {
        return TOTALS + face * FACE_PARTS + part;
    }

    static int ofSetting(int setting) {
        return TOTALS + FACE_LOOKS + setting;
    }

    /** Of a minute that is looked at: one in 120. */
    static int ofKeeper(int minute, int part) {
        return TOTALS + FACE_LOOKS + SETTINGS + minute / MINUTES_APART * KEEPER_PARTS + part;
    }

    static int one(TowerFaces tower, int number) {
        int rest = number;
        if (rest < TOTALS) {
            return tower.total(rest);
        }
        rest -= TOTALS;
        if (rest < FACE_LOOKS) {
            return tower.face(rest / FACE_PARTS, rest % FACE_PARTS);
        }
        rest -= FACE_LOOKS;
        if (rest < SETTINGS) {
            return tower.setting(rest);
        }
        rest -= SETTINGS;
        return tower.keeper(rest / KEEPER_PARTS * MINUTES_APART, rest % KEEPER_PARTS);
    }

    static int[] all(TowerFaces tower) {
        int[] answers = new int[COUNT];
        for (int number = 0; number < COUNT; number++) {
            answers[number] = one(tower, number);
        }
        return answers;
    }
}
