/** What can be empty or full, at both ends: the keepers, the buffer, the recorded states, the saved state. */
final class EmptyFullTest {
    private static final Check CHECK = new Check("EmptyFullTest");
    private static final int[] STARTS = {700, 0, 1439, 300, 1000, 301};
    private static final int[] WRONGS = {1, -30, 30, 0, -5, 6};

    public static void main(String[] args) {
        noKeepers();
        oneKeeper();
        sixKeepers();
        roomForAnotherKeeper();
        lastKeeperGoes();
        emptyBuffer();
        oneSign();
        sixtySigns();
        fullBufferThatIsNoText();
        fullBufferWithAnError();
        noRecordedStates();
        fiveRecordedStates();
        sixthRecordedState();
        statesComeAndGo();
        noSavedState();
        savedStateStays();
        savedStateIsOverwritten();
        CHECK.end();
    }

    private static void noKeepers() {
        TowerFaces tower = new TowerFaces();
        CHECK.due("15: keepers", 0, tower.total(7));
        for (int part = 0; part < 3; part++) {
            CHECK.due("12: first minute", TowerFaces.NONE, tower.keeper(0, part));
            CHECK.due("12: last minute", TowerFaces.NONE, tower.keeper(1439, part));
        }
        CHECK.due("13: keeperTime", TowerFaces.NONE, tower.keeperTime());
        CHECK.due("11: reset", TowerFaces.NOT_POSSIBLE, tower.reset());
        CHECK.due("10: dismiss", TowerFaces.NO_SUCH, tower.dismiss(0));
        tower.dial(1, 300);
        tower.pass(2000);
        CHECK.due("8: nothing is reset at noon", 0, tower.total(6));
    }

    private static void oneKeeper() {
        TowerFaces tower = new TowerFaces();
        CHECK.due("9: the first one", 1, tower.hire(0, 7));
        CHECK.due("15: keepers", 1, tower.total(7));
        CHECK.due("12: start", 0, tower.keeper(1439, 0));
        CHECK.due("12: wrong", 7, tower.keeper(0, 1));
        CHECK.due("12: nobody comes next", 1440, tower.keeper(0, 2));
        CHECK.due("13: keeperTime", 7, tower.keeperTime());
        CHECK.due("11: reset", 4, tower.reset());
    }

    private static TowerFaces six() {
        TowerFaces tower = new TowerFaces();
        for (int hired = 0; hired < 6; hired++) {
            CHECK.due("9: keepers then", hired + 1, tower.hire(STARTS[hired], WRONGS[hired]));
        }
        return tower;
    }

    private static void sixKeepers() {
        TowerFaces tower = six();
        CHECK.due("15: keepers", 6, tower.total(7));
        CHECK.due("9: a seventh", TowerFaces.LIMIT, tower.hire(5, 5));
        CHECK.due("15: keepers", 6, tower.total(7));
        for (int hired = 0; hired < 6; hired++) {
            CHECK.due("12: start", STARTS[hired], tower.keeper(STARTS[hired], 0));
            CHECK.due("12: wrong", WRONGS[hired], tower.keeper(STARTS[hired], 1));
        }
        int[][] rows = {{0, 300}, {300, 1}, {301, 399}, {700, 300}, {1000, 439}, {1439, 1}};
        for (int[] row : rows) {
            CHECK.due("12: minutes to the next one from " + row[0], row[1], tower.keeper(row[0], 2));
        }
    }

    private static void roomForAnotherKeeper() {
        for (int gone = 0; gone < 6; gone++) {
            TowerFaces tower = six();
            CHECK.due("10: wrong by", WRONGS[gone], tower.dismiss(STARTS[gone]));
            CHECK.due("15: keepers", 5, tower.total(7));
            for (int left = 0; left < 6; left++) {
                if (left != gone) {
                    CHECK.due("12: start of one who stays", STARTS[left], tower.keeper(STARTS[left], 0));
                    CHECK.due("12: wrong of one who stays", WRONGS[left], tower.keeper(STARTS[left], 1));
                }
            }
            CHECK.due("10: is gone", TowerFaces.NO_SUCH, tower.dismiss(STARTS[gone]));
            CHECK.due("9: room for the same start", 6, tower.hire(STARTS[gone], 9));
            CHECK.due("12: another watch", 9, tower.keeper(STARTS[gone], 1));
            CHECK.due("9: no room for a seventh", TowerFaces.LIMIT, tower.hire(5, 5));
            CHECK.due("25: the fifth again", 4, tower.undo());
            CHECK.due("9: room again", 6, tower.hire(5, 5));
        }
    }

    private static void lastKeeperGoes() {
        TowerFaces tower = six();
        for (int gone = 0; gone < 6; gone++) {
            CHECK.due("10: wrong by", WRONGS[gone], tower.dismiss(STARTS[gone]));
            CHECK.due("15: keepers left", 5 - gone, tower.total(7));
        }
        CHECK.due("12: nobody is left", TowerFaces.NONE, tower.keeper(0, 0));
        CHECK.due("13: nobody is left", TowerFaces.NONE, tower.keeperTime());
        CHECK.due("11: nobody is left", TowerFaces.NOT_POSSIBLE, tower.reset());
        CHECK.due("10: nobody is left", TowerFaces.NO_SUCH, tower.dismiss(STARTS[5]));
        CHECK.due("25: the last one comes back", 4, tower.undo());
        CHECK.due("13: and has the watch", 6, tower.keeperTime());
        tower.dismiss(STARTS[5]);
        CHECK.due("9: the first one again", 1, tower.hire(STARTS[5], 2));
    }

    private static void emptyBuffer() {
        TowerFaces tower = new TowerFaces();
        CHECK.due("23: no text", 0, tower.errorPosition());
        CHECK.due("24: no text", TowerFaces.BAD_TEXT, tower.work());
        CHECK.due("22: no characters", 0, tower.clearText());
        CHECK.due("22: no characters still", 0, tower.clearText());
        tower.append('b');
        tower.append('0');
        CHECK.due("24: one work", 1, tower.work());
        CHECK.due("23: empty behind it", 0, tower.errorPosition());
        CHECK.due("24: empty behind it", TowerFaces.BAD_TEXT, tower.work());
        CHECK.due("22: empty behind it", 0, tower.clearText());
        CHECK.due("21: the first character again", 1, tower.append('b'));
    }

    private static void oneSign() {
        TowerFaces tower = new TowerFaces();
        CHECK.due("21: one character", 1, tower.append('b'));
        CHECK.due("23: no error, no text", 1, tower.errorPosition());
        CHECK.due("22: one character", 1, tower.clearText());
        CHECK.due("21: one character", 1, tower.append('0'));
        CHECK.due("23: an error", 0, tower.errorPosition());
        CHECK.due("22: one character", 1, tower.clearText());
        CHECK.due("22: none", 0, tower.clearText());
    }

    private static void sixtySigns() {
        TowerFaces tower = new TowerFaces();
        char[] signs = Texts.SIXTY_SIGNS.toCharArray();
        CHECK.due("21: characters to append", 60, signs.length);
        for (int place = 0; place < 60; place++) {
            CHECK.due("21: characters then", place + 1, tower.append(signs[place]));
        }
        CHECK.due("21: no room", TowerFaces.LIMIT, tower.append('0'));
        CHECK.due("21: no room for any", TowerFaces.LIMIT, tower.append('x'));
        CHECK.due("23: a text", TowerFaces.NONE, tower.errorPosition());
        CHECK.due("24: all works are done", 20, tower.work());
        CHECK.due("15: 1 and 10 minutes", 11, tower.total(0));
        CHECK.due("14: the bell was moved 18 times", 0, tower.face(1, 5));
        CHECK.due("21: room again", 1, tower.append('x'));
        Texts.put(tower, Texts.SIXTY_SIGNS);
        CHECK.due("22: all characters", 60, tower.clearText());
        CHECK.due("21: room again", 1, tower.append('w'));
    }

    private static void fullBufferThatIsNoText() {
        String[] texts = {"b1;".repeat(20), "b1;".repeat(19) + "f20", "b1;".repeat(19) + "k23", "w100;" + "b1;".repeat(18) + "w"};
        for (String text : texts) {
            TowerFaces tower = new TowerFaces();
            Texts.put(tower, text);
            CHECK.due("23: all characters of " + text, 60, tower.errorPosition());
            CHECK.due("24: no text", TowerFaces.BAD_TEXT, tower.work());
            CHECK.due("21: no room for the rest", TowerFaces.LIMIT, tower.append('1'));
            CHECK.due("22: the characters stay", 60, tower.clearText());
        }
    }

    private static void fullBufferWithAnError() {
        char[] signs = Texts.SIXTY_SIGNS.toCharArray();
        for (int place = 0; place < 60; place++) {
            char[] wrong = signs.clone();
            wrong[place] = 'x';
            TowerFaces tower = new TowerFaces();
            Texts.put(tower, new String(wrong));
            CHECK.due("23: the only error", place, tower.errorPosition());
            wrong[59] = 'x';
            Texts.put(tower, new String(wrong));
            CHECK.due("23: the first error", place, tower.errorPosition());
            CHECK.due("24: no work is done", TowerFaces.BAD_TEXT, tower.work());
            CHECK.due("15: no minute has passed", 0, tower.total(0));
        }
    }

    private static void noRecordedStates() {
        TowerFaces tower = new TowerFaces();
        CHECK.due("25: none of a new object", TowerFaces.NOT_POSSIBLE, tower.undo());
        tower.bell(0);
        CHECK.due("25: none remains", 0, tower.undo());
        CHECK.due("25: none is left", TowerFaces.NOT_POSSIBLE, tower.undo());
        CHECK.due("14: the first state stays", 1, tower.face(0, 5));
        tower.bell(0);
        CHECK.due("25: one again", 0, tower.undo());
    }

    private static TowerFaces withStates(int states) {
        TowerFaces tower = new TowerFaces();
        for (int state = 1; state <= states; state++) {
            tower.dial(1, 100 + state);
        }
        return tower;
    }

    private static void fiveRecordedStates() {
        for (int states = 1; states <= 5; states++) {
            TowerFaces tower = withStates(states);
            for (int left = states - 1; left >= 0; left--) {
                CHECK.due("25: states left of " + states, left, tower.undo());
                CHECK.due("25: the state ahead", left == 0 ? 0 : 100 + left, tower.face(1, 0));
            }
            CHECK.due("25: none of " + states + " is left", TowerFaces.NOT_POSSIBLE, tower.undo());
            CHECK.due("25: the first state of all", 0, tower.face(1, 0));
        }
    }

    private static void sixthRecordedState() {
        for (int states = 6; states <= 17; states++) {
            TowerFaces tower = withStates(states);
            for (int left = 4; left >= 0; left--) {
                CHECK.due("25: states left of " + states, left, tower.undo());
                CHECK.due("25: the state ahead", 100 + states - 5 + left, tower.face(1, 0));
            }
            CHECK.due("25: the oldest ones of " + states + " are gone", TowerFaces.NOT_POSSIBLE, tower.undo());
            CHECK.due("25: the fifth last state stays", 100 + states - 5, tower.face(1, 0));
        }
    }

    private static void statesComeAndGo() {
        TowerFaces tower = withStates(7);
        for (int left = 4; left >= 2; left--) {
            CHECK.due("25: states left", left, tower.undo());
        }
        CHECK.due("25: dial behind three undos", 104, tower.face(1, 0));
        tower.dial(1, 201);
        tower.dial(1, 202);
        tower.dial(1, 203);
        CHECK.due("25: two old ones and two new ones remain", 4, tower.undo());
        tower.dial(1, 204);
        tower.dial(1, 205);
        int[] dials = {204, 202, 201, 104, 103};
        for (int undone = 0; undone < 5; undone++) {
            CHECK.due("25: states left", 4 - undone, tower.undo());
            CHECK.due("25: dial", dials[undone], tower.face(1, 0));
        }
        CHECK.due("25: none is left", TowerFaces.NOT_POSSIBLE, tower.undo());
    }

    private static void noSavedState() {
        TowerFaces tower = new TowerFaces();
        CHECK.due("27: nothing saved", TowerFaces.NOT_POSSIBLE, tower.restore());
        tower.pass(5);
        CHECK.due("27: still nothing", TowerFaces.NOT_POSSIBLE, tower.restore());
        CHECK.due("15: the time stays", 5, tower.total(0));
        CHECK.due("26: save", 5, tower.save());
        CHECK.due("27: something now", 5, tower.restore());
    }

    private static void savedStateStays() {
        TowerFaces tower = withStates(3);
        CHECK.due("26: save at the time 0", 0, tower.save());
        for (int again = 0; again < 7; again++) {
            tower.pass(10 + again);
            CHECK.due("27: restored again", 0, tower.restore());
            CHECK.due("27: dial", 103, tower.face(1, 0));
        }
        for (int left = 4; left >= 0; left--) {
            tower.undo();
        }
        CHECK.due("27: no undo takes it away", 0, tower.restore());
        CHECK.due("27: dial", 103, tower.face(1, 0));
    }

    private static void savedStateIsOverwritten() {
        TowerFaces tower = withStates(1);
        tower.save();
        tower.pass(30);
        CHECK.due("26: save over the first one", 30, tower.save());
        CHECK.due("25: save is not undone", 1, tower.undo());
        CHECK.due("15: time ahead", 0, tower.total(0));
        CHECK.due("27: the second one", 30, tower.restore());
        CHECK.due("27: dial", 131, tower.face(1, 0));
        CHECK.due("25: restore is undone", 1, tower.undo());
        CHECK.due("25: dial", 101, tower.face(1, 0));
    }
}
