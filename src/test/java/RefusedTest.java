/**
 * The error codes that the state brings about: the call answers the code and changes
 * nothing. And where two codes apply, the one that the document lists first.
 *
 * The codes for arguments out of their ranges are in RangeTest.
 */
final class RefusedTest {
    private static final Check CHECK = new Check("RefusedTest");

    public static void main(String[] args) {
        passBeyondLastTime();
        hireTwice();
        hireSeventh();
        dismissNobody();
        resetWithoutKeepers();
        appendToFullBuffer();
        workWithoutText();
        undoWithoutStates();
        restoreWithoutState();
        noSuchFaceComesFirst();
        badValueComesFirstToPass();
        orderOfHire();
        badValueComesFirstToAppend();
        noneComesLast();
        CHECK.end();
    }

    private static void refused(String what, int due, Views.Maker maker, Views.Call call) {
        Views.unchanged(CHECK, what, due, maker, call);
    }

    private static void passBeyondLastTime() {
        int[][] rows = {{0, 1}, {0, 2000}, {1, 2}, {1998, 1999}, {1998, 2000}};
        for (int[] row : rows) {
            TowerFaces tower = Towers.aheadOfLastTime(row[0]);
            String what = "8: pass(" + row[1] + ") at " + (999999 - row[0]);
            CHECK.due(what, TowerFaces.LIMIT, tower.pass(row[1]));
            CHECK.due(what + " lets no minute pass", 999999 - row[0], tower.total(0));
            CHECK.due(what + " saves nothing", TowerFaces.NOT_POSSIBLE, tower.restore());
            CHECK.due(what + " records nothing", 4, tower.undo());
            CHECK.due(what + ", the time ahead", 998000, tower.total(0));
            for (int left = 3; left >= 0; left--) {
                CHECK.due(what + " keeps the states", left, tower.undo());
            }
            CHECK.due(what + ", the oldest state", 990000, tower.total(0));
        }
        lookBehindLimit();
    }

    /** Behind 501 calls a tower is good for few looks, so several towers share them. */
    private static void lookBehindLimit() {
        int looksOfOne = 8;
        for (int first = 0; first < Looks.COUNT; first += looksOfOne) {
            TowerFaces untouched = Towers.aheadOfLastTime(3);
            TowerFaces asked = Towers.aheadOfLastTime(3);
            CHECK.due("8: beyond the last time", TowerFaces.LIMIT, asked.pass(4));
            for (int number = first; number < Math.min(first + looksOfOne, Looks.COUNT); number++) {
                CHECK.due("8: look " + number + " behind LIMIT", Looks.one(untouched, number), Looks.one(asked, number));
            }
        }
    }

    private static void hireTwice() {
        refused("9: the start of a keeper", TowerFaces.NOT_POSSIBLE, Towers::busy, tower -> tower.hire(60, 3));
        refused("9: the start of the other one", TowerFaces.NOT_POSSIBLE, Towers::busy, tower -> tower.hire(800, 14));
        TowerFaces tower = Towers.busy();
        CHECK.due("9: a minute ahead of a start", 3, tower.hire(59, 3));
        CHECK.due("9: a minute behind a start", 4, tower.hire(61, 3));
    }

    private static void hireSeventh() {
        refused("9: a seventh keeper", TowerFaces.LIMIT, Towers::withSixKeepers, tower -> tower.hire(5, 3));
        refused("9: a seventh keeper, the last start", TowerFaces.LIMIT, Towers::withSixKeepers, tower -> tower.hire(1438, 3));
    }

    private static void dismissNobody() {
        refused("10: nobody has this start", TowerFaces.NO_SUCH, Towers::busy, tower -> tower.dismiss(61));
        refused("10: no keepers", TowerFaces.NO_SUCH, Towers::withoutKeepers, tower -> tower.dismiss(60));
        refused("10: no keepers, start 0", TowerFaces.NO_SUCH, Towers::withoutKeepers, tower -> tower.dismiss(0));
    }

    private static void resetWithoutKeepers() {
        refused("11: no keepers", TowerFaces.NOT_POSSIBLE, Towers::withoutKeepers, TowerFaces::reset);
    }

    private static void appendToFullBuffer() {
        for (char sign : "0;xw".toCharArray()) {
            refused("21: no room for " + sign, TowerFaces.LIMIT, () -> Towers.withText(Texts.SIXTY_SIGNS),
                tower -> tower.append(sign));
        }
    }

    private static void workWithoutText() {
        String[] texts = {"", "x", "w", "w0", "w1;", "w1;x", "b1;w2001", "k03:00+31", "b1;f4", "b1;k24:00+1", ";b1"};
        for (String text : texts) {
            refused("24: work of '" + text + "'", TowerFaces.BAD_TEXT, () -> Towers.withText(text), TowerFaces::work);
        }
    }

    private static void undoWithoutStates() {
        refused("25: nothing was recorded", TowerFaces.NOT_POSSIBLE, TowerFaces::new, TowerFaces::undo);
        Views.Maker undone = () -> {
            TowerFaces tower = Towers.busy();
            for (int left = 4; left >= 0; left--) {
                CHECK.due("25: states left", left, tower.undo());
            }
            return tower;
        };
        refused("25: all is undone", TowerFaces.NOT_POSSIBLE, undone, TowerFaces::undo);
    }

    private static void restoreWithoutState() {
        refused("27: nothing was saved", TowerFaces.NOT_POSSIBLE, Towers::unsaved, TowerFaces::restore);
    }

    private static void noSuchFaceComesFirst() {
        for (int face : new int[] {-1, 4}) {
            refused("4: NO_SUCH ahead of BAD_VALUE", TowerFaces.NO_SUCH, Towers::busy, tower -> tower.gear(face, 9));
            refused("4: NO_SUCH ahead of BAD_VALUE", TowerFaces.NO_SUCH, Towers::busy, tower -> tower.gear(face, 61));
            refused("6: NO_SUCH ahead of BAD_VALUE", TowerFaces.NO_SUCH, Towers::busy, tower -> tower.dial(face, -1));
            refused("6: NO_SUCH ahead of BAD_VALUE", TowerFaces.NO_SUCH, Towers::busy, tower -> tower.dial(face, 720));
            refused("14: NO_SUCH ahead of BAD_VALUE", TowerFaces.NO_SUCH, Towers::busy, tower -> tower.face(face, -1));
            refused("14: NO_SUCH ahead of BAD_VALUE", TowerFaces.NO_SUCH, Towers::busy, tower -> tower.face(face, 8));
        }
    }

    private static void badValueComesFirstToPass() {
        TowerFaces tower = Towers.aheadOfLastTime(0);
        CHECK.due("8: LIMIT of the fewest minutes", TowerFaces.LIMIT, tower.pass(1));
        CHECK.due("8: LIMIT of the most minutes", TowerFaces.LIMIT, tower.pass(2000));
        for (int minutes : new int[] {2001, Integer.MAX_VALUE, 0, Integer.MIN_VALUE}) {
            CHECK.due("8: BAD_VALUE ahead of LIMIT", TowerFaces.BAD_VALUE, tower.pass(minutes));
        }
        CHECK.due("8: nothing is recorded", 4, tower.undo());
    }

    private static void orderOfHire() {
        for (int wrong : new int[] {-31, 31}) {
            refused("9: BAD_VALUE ahead of NOT_POSSIBLE", TowerFaces.BAD_VALUE, Towers::busy, tower -> tower.hire(60, wrong));
            refused("9: BAD_VALUE ahead of LIMIT", TowerFaces.BAD_VALUE, Towers::withSixKeepers, tower -> tower.hire(5, wrong));
            refused("9: BAD_VALUE ahead of both", TowerFaces.BAD_VALUE, Towers::withSixKeepers, tower -> tower.hire(60, wrong));
        }
        for (int start : new int[] {-1, 1440}) {
            refused("9: BAD_VALUE ahead of LIMIT", TowerFaces.BAD_VALUE, Towers::withSixKeepers, tower -> tower.hire(start, 0));
        }
        for (int start : new int[] {60, 400, 1439}) {
            refused("9: NOT_POSSIBLE ahead of LIMIT", TowerFaces.NOT_POSSIBLE, Towers::withSixKeepers, tower -> tower.hire(start, 0));
        }
    }

    private static void badValueComesFirstToAppend() {
        for (int code : new int[] {32, 127}) {
            refused("21: BAD_VALUE ahead of LIMIT", TowerFaces.BAD_VALUE, () -> Towers.withText(Texts.SIXTY_SIGNS),
                tower -> tower.append(code));
        }
    }

    /** NONE is no error code: it is answered only where no error code applies. */
    private static void noneComesLast() {
        Views.Maker bare = () -> {
            TowerFaces tower = Towers.withoutKeepers();
            tower.bell(0);
            tower.bell(2);
            return tower;
        };
        refused("12: NONE", TowerFaces.NONE, bare, tower -> tower.keeper(0, 0));
        refused("12: BAD_VALUE ahead of NONE", TowerFaces.BAD_VALUE, bare, tower -> tower.keeper(-1, 0));
        refused("12: BAD_VALUE ahead of NONE", TowerFaces.BAD_VALUE, bare, tower -> tower.keeper(1440, 0));
        refused("12: BAD_VALUE ahead of NONE", TowerFaces.BAD_VALUE, bare, tower -> tower.keeper(0, -1));
        refused("12: BAD_VALUE ahead of NONE", TowerFaces.BAD_VALUE, bare, tower -> tower.keeper(0, 3));
        refused("13: NONE", TowerFaces.NONE, bare, TowerFaces::keeperTime);
        refused("17: NONE", TowerFaces.NONE, bare, tower -> tower.coming(23, 2));
        refused("17: BAD_VALUE ahead of NONE", TowerFaces.BAD_VALUE, bare, tower -> tower.coming(-1, 0));
        refused("17: BAD_VALUE ahead of NONE", TowerFaces.BAD_VALUE, bare, tower -> tower.coming(24, 0));
        refused("17: BAD_VALUE ahead of NONE", TowerFaces.BAD_VALUE, bare, tower -> tower.coming(0, -1));
        refused("17: BAD_VALUE ahead of NONE", TowerFaces.BAD_VALUE, bare, tower -> tower.coming(0, 3));
        refused("19: NONE", TowerFaces.NONE, TowerFaces::new, tower -> tower.minutesTo(360));
        refused("19: BAD_VALUE ahead of NONE", TowerFaces.BAD_VALUE, TowerFaces::new, tower -> tower.minutesTo(361));
        refused("23: NONE", TowerFaces.NONE, Towers::busy, TowerFaces::errorPosition);
    }
}
