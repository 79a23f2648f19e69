/**
 * All that a tower holds, its recorded states, its saved state and its buffer too.
 *
 * Most of it shows only behind calls that change the tower, and a tower is good for
 * 512 calls alone, so each view is taken of a tower of its own.
 */
final class Views {
    static final int NOW = 0;
    static final int MOST_UNDONE = 6;
    static final int RESTORED = 7;
    static final int BUFFER = 8;
    static final int WORKED = 9;
    static final int COUNT = 10;

    private Views() {
    }

    /** Makes a tower in the state that a test begins with. */
    interface Maker {
        TowerFaces make();
    }

    interface Call {
        int on(TowerFaces tower);
    }

    /** Undoes as many calls as the view's number says, or restores, or reads the buffer; then looks. */
    static int[] of(TowerFaces tower, int view) {
        int[] answers = new int[MOST_UNDONE + Looks.COUNT];
        if (view == RESTORED) {
            answers[0] = tower.restore();
        } else if (view == BUFFER) {
            answers[0] = tower.errorPosition();
            answers[1] = tower.clearText();
        } else if (view == WORKED) {
            answers[0] = tower.work();
        } else {
            for (int undone = 0; undone < view; undone++) {
                answers[undone] = tower.undo();
            }
        }
        System.arraycopy(Looks.all(tower), 0, answers, MOST_UNDONE, Looks.COUNT);
        return answers;
    }

    /** The call answers what is due, and the tower is in each view as if it had not been made. */
    static void unchanged(Check check, String what, int due, Maker maker, Call call) {
        for (int view = 0; view < COUNT; view++) {
            unchangedIn(check, what, view, due, maker, call);
        }
    }

    static void unchangedIn(Check check, String what, int view, int due, Maker maker, Call call) {
        TowerFaces asked = maker.make();
        check.due(what, due, call.on(asked));
        check.same(what + " changes nothing, view " + view, of(maker.make(), view), of(asked, view));
    }
}
