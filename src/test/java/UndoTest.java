/** Promises 25 to 27: undo, save, restore; and which calls record a state. */
final class UndoTest {
    private static final Check CHECK = new Check("UndoTest");

    public static void main(String[] args) {
        undo();
        undoBringsAllBack();
        restoreBringsAllBack();
        undoLeavesBufferAndSavedState();
        callsRecord();
        callsWithoutDifferenceRecord();
        worksRecordOneState();
        looksChangeNothing();
        textCallsChangeTheBufferAlone();
        saveChangesTheSavedStateAlone();
        save();
        restore();
        CHECK.end();
    }

    private static void undo() {
        TowerFaces tower = new TowerFaces();
        tower.dial(0, 1);
        tower.dial(0, 2);
        CHECK.due("25: one remains", 1, tower.undo());
        CHECK.due("25: the state ahead", 1, tower.face(0, 0));
        tower.dial(0, 3);
        CHECK.due("25: undo is not recorded", 1, tower.undo());
        CHECK.due("25: the state ahead", 1, tower.face(0, 0));
        CHECK.due("25: none remains", 0, tower.undo());
        CHECK.due("25: the first state", 0, tower.face(0, 0));
    }

    /** In each place that a recorded state can have. */
    private static void undoBringsAllBack() {
        for (int recorded = 0; recorded < 6; recorded++) {
            TowerFaces tower = Towers.busy();
            for (int call = 0; call < recorded; call++) {
                tower.dial(2, call);
            }
            int[] ahead = Looks.all(tower);
            change(tower);
            CHECK.due("25: undo", 4, tower.undo());
            CHECK.same("25: undone", ahead, Looks.all(tower));
        }
    }

    private static void restoreBringsAllBack() {
        TowerFaces tower = Towers.busy();
        tower.save();
        int[] ahead = Looks.all(tower);
        change(tower);
        CHECK.due("27: restore", ahead[0], tower.restore());
        CHECK.same("27: restored", ahead, Looks.all(tower));
        for (int setting = 0; setting < 3; setting++) {
            tower.set(setting, setting < 2 ? 9 : 900);
        }
        Towers.setGears(tower, 44);
        CHECK.due("27: restore again", ahead[0], tower.restore());
        CHECK.same("27: restored again", ahead, Looks.all(tower));
    }

    /** Changes most of what a state holds with one recorded call; no work changes settings or teeth. */
    private static void change(TowerFaces tower) {
        int[] ahead = Looks.all(tower);
        Texts.put(tower, "w2000;o0;b2;b3;f200:07;k00:01+5;k20:01+6;k14:00-7;w1500");
        CHECK.due("24: works", 9, tower.work());
        int[] behind = Looks.all(tower);
        int changed = 0;
        for (int number = 0; number < Looks.COUNT; number++) {
            changed += behind[number] == ahead[number] ? 0 : 1;
        }
        CHECK.holds("24: most is another then", changed > 40);
    }

    private static void undoLeavesBufferAndSavedState() {
        TowerFaces tower = new TowerFaces();
        tower.dial(0, 100);
        tower.append('w');
        tower.save();
        tower.dial(0, 200);
        tower.append('1');
        CHECK.due("25: undo", 1, tower.undo());
        CHECK.due("25: undo", 0, tower.undo());
        CHECK.due("25: the buffer stays", 2, tower.clearText());
        CHECK.due("27: the saved state stays", 0, tower.restore());
        CHECK.due("27: which is the one saved", 100, tower.face(0, 0));
    }

    /** A tower with two recorded states, a saved state and a text. */
    private static TowerFaces moving() {
        TowerFaces tower = new TowerFaces();
        tower.hire(60, -4);
        tower.save();
        Texts.put(tower, "b1;w7;f203:04");
        tower.pass(277);
        return tower;
    }

    /** The same without strain and wear, and with all faces right by the keeper's watch. */
    private static TowerFaces still() {
        TowerFaces tower = new TowerFaces();
        tower.hire(60, 0);
        tower.dial(1, 1);
        tower.save();
        Texts.put(tower, "o1");
        return tower;
    }

    /** The call records the state ahead of it, and nothing else: undone, all is as if it had not been made. */
    private static void recorded(String what, int due, Views.Maker maker, Views.Call call) {
        for (int view = 0; view < Views.BUFFER; view++) {
            recordedIn(what, view, due, maker, call);
        }
    }

    private static void recordedWithBuffer(String what, int due, Views.Maker maker, Views.Call call) {
        for (int view = 0; view < Views.COUNT; view++) {
            recordedIn(what, view, due, maker, call);
        }
    }

    private static void recordedIn(String what, int view, int due, Views.Maker maker, Views.Call call) {
        TowerFaces asked = maker.make();
        CHECK.due(what, due, call.on(asked));
        CHECK.due(what + " records one state", 2, asked.undo());
        CHECK.same(what + " undone, view " + view, Views.of(maker.make(), view), Views.of(asked, view));
    }

    private static void callsRecord() {
        recordedWithBuffer("2: set the load", 3, UndoTest::moving, tower -> tower.set(0, 5));
        recordedWithBuffer("2: set the tolerance", 1, UndoTest::moving, tower -> tower.set(1, 5));
        recordedWithBuffer("2: set the grip", 600, UndoTest::moving, tower -> tower.set(2, 500));
        for (int number = 0; number < 4; number++) {
            int face = number;
            recordedWithBuffer("4: gear", 20 + 10 * face, UndoTest::moving, tower -> tower.gear(face, 11));
        }
        recordedWithBuffer("5: oil", 0, UndoTest::moving, tower -> tower.oil(0));
        recordedWithBuffer("6: dial", 277 - 4 - 1 - 5, UndoTest::moving, tower -> tower.dial(0, 5));
        recordedWithBuffer("7: bell", 1, UndoTest::moving, tower -> tower.bell(1));
        recordedWithBuffer("8: pass", 5, UndoTest::moving, tower -> tower.pass(60));
        recordedWithBuffer("9: hire", 2, UndoTest::moving, tower -> tower.hire(5, 30));
        recordedWithBuffer("10: dismiss", -4, UndoTest::moving, tower -> tower.dismiss(60));
        recordedWithBuffer("11: reset", 1, UndoTest::dialsAtWatch, TowerFaces::reset);
        recorded("24: work", 3, UndoTest::moving, TowerFaces::work);
        recordedWithBuffer("27: restore", 0, UndoTest::moving, TowerFaces::restore);
    }

    /** All dials but one are right by a watch of the time 0 that is 4 minutes slow. */
    private static TowerFaces dialsAtWatch() {
        TowerFaces tower = new TowerFaces();
        tower.save();
        Texts.put(tower, "f011:56;f111:57;f211:55;k01:00-4");
        tower.work();
        Texts.put(tower, "b3");
        tower.dial(3, 714);
        return tower;
    }

    private static void callsWithoutDifferenceRecord() {
        recordedWithBuffer("2: set", 3, UndoTest::still, tower -> tower.set(0, 3));
        recordedWithBuffer("4: gear", 30, UndoTest::still, tower -> tower.gear(1, 30));
        recordedWithBuffer("5: oil", 0, UndoTest::still, tower -> tower.oil(1));
        recordedWithBuffer("6: dial", 0, UndoTest::still, tower -> tower.dial(1, 1));
        recordedWithBuffer("11: reset", 0, UndoTest::still, TowerFaces::reset);
        recorded("24: work", 1, UndoTest::still, TowerFaces::work);
        recordedWithBuffer("27: restore", 0, UndoTest::still, TowerFaces::restore);
        recorded("24: no work at all", 0, UndoTest::withFailingWork, TowerFaces::work);
    }

    private static TowerFaces withFailingWork() {
        TowerFaces tower = still();
        Texts.put(tower, "k01:00+3;w5");
        return tower;
    }

    /** With five recorded states, works discard the oldest one alone. */
    private static void worksRecordOneState() {
        TowerFaces tower = new TowerFaces();
        for (int call = 1; call <= 5; call++) {
            tower.dial(0, call);
        }
        Texts.put(tower, "f000:10;f000:11;f000:12;f000:13;f000:14;f000:15;f000:16");
        CHECK.due("24: works", 7, tower.work());
        CHECK.due("14: the last work's dial", 16, tower.face(0, 0));
        for (int left = 4; left >= 0; left--) {
            CHECK.due("25: states left behind works", left, tower.undo());
            CHECK.due("25: dial behind works", left + 1, tower.face(0, 0));
        }
        CHECK.due("25: the oldest one is gone", TowerFaces.NOT_POSSIBLE, tower.undo());
    }

    private static void looksChangeNothing() {
        Views.unchanged(CHECK, "3: setting", 7, Towers::busy, tower -> tower.setting(1));
        Views.unchanged(CHECK, "12: keeper", 800, Towers::busy, tower -> tower.keeper(1077, 0));
        Views.unchanged(CHECK, "13: keeperTime", 1077 + 14 - 720, Towers::busy, TowerFaces::keeperTime);
        Views.unchanged(CHECK, "14: face", 11, Towers::busy, tower -> tower.face(3, 1));
        Views.unchanged(CHECK, "15: total", 1077, Towers::busy, tower -> tower.total(0));
        Views.unchanged(CHECK, "23: errorPosition", TowerFaces.NONE, Towers::busy, TowerFaces::errorPosition);
        Views.unchanged(CHECK, "16: majority", 0, TowerFaces::new, TowerFaces::majority);
        Views.unchanged(CHECK, "17: coming", 1440, TowerFaces::new, tower -> tower.coming(23, 1));
        Views.unchanged(CHECK, "18: spreadIn", 2, UndoTest::saved, tower -> tower.spreadIn(200));
        Views.unchanged(CHECK, "19: minutesTo", 134, UndoTest::saved, tower -> tower.minutesTo(2));
        Views.unchanged(CHECK, "20: bestOil", 0, UndoTest::saved, TowerFaces::bestOil);
    }

    private static TowerFaces saved() {
        TowerFaces tower = new TowerFaces();
        tower.save();
        tower.append('w');
        return tower;
    }

    private static void textCallsChangeTheBufferAlone() {
        for (int view = 0; view < Views.BUFFER; view++) {
            Views.unchangedIn(CHECK, "21: append", view, 14, Towers::busy, tower -> tower.append(';'));
            Views.unchangedIn(CHECK, "22: clearText", view, 13, Towers::busy, TowerFaces::clearText);
        }
    }

    private static void saveChangesTheSavedStateAlone() {
        for (int view = 0; view < Views.COUNT; view++) {
            if (view != Views.RESTORED) {
                Views.unchangedIn(CHECK, "26: save", view, 1077, Towers::busy, TowerFaces::save);
            }
        }
    }

    private static void save() {
        TowerFaces tower = new TowerFaces();
        CHECK.due("26: time 0", 0, tower.save());
        tower.pass(15);
        CHECK.due("26: time", 15, tower.save());
        CHECK.due("26: save records nothing", 0, tower.undo());
        CHECK.due("26: the state is another now", 0, tower.total(0));
        CHECK.due("26: the last one saved", 15, tower.restore());
        CHECK.due("26: saved again", 15, tower.save());
        tower.pass(1985);
        CHECK.due("26: a time behind the first day", 2000, tower.save());
        tower.pass(1);
        CHECK.due("27: a time behind the first day", 2000, tower.restore());
    }

    private static void restore() {
        TowerFaces tower = new TowerFaces();
        tower.dial(0, 9);
        tower.save();
        tower.pass(70);
        tower.append('x');
        CHECK.due("27: time then", 0, tower.restore());
        CHECK.due("27: the buffer stays", 1, tower.clearText());
        CHECK.due("27: dial", 9, tower.face(0, 0));
        tower.pass(33);
        CHECK.due("27: dial goes on", 42, tower.face(0, 0));
        CHECK.due("27: it remains saved", 0, tower.restore());
        CHECK.due("27: and unchanged", 9, tower.face(0, 0));
        CHECK.due("27: undo", 4, tower.undo());
        CHECK.due("27: undone", 33, tower.total(0));
        CHECK.due("27: undo", 3, tower.undo());
        CHECK.due("27: undo", 2, tower.undo());
        CHECK.due("27: undone", 70, tower.total(0));
    }
}
