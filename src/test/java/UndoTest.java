/** Promises 25 to 27: undo, save, restore. */
final class UndoTest {
    private static final Check CHECK = new Check("UndoTest");

    public static void main(String[] args) {
        undo();
        undoKeepsFive();
        undoOfEachCall();
        undoBringsAllBack();
        undoLeavesBufferAndSavedState();
        failingCallsRecordNothing();
        save();
        restore();
        CHECK.end();
    }

    private static void undo() {
        TowerFaces tower = new TowerFaces();
        CHECK.due("25: nothing recorded", TowerFaces.NOT_POSSIBLE, tower.undo());
        tower.dial(0, 1);
        tower.dial(0, 2);
        CHECK.due("25: one remains", 1, tower.undo());
        CHECK.due("25: the state ahead", 1, tower.face(0, 0));
        tower.dial(0, 3);
        CHECK.due("25: undo is not recorded", 1, tower.undo());
        CHECK.due("25: the state ahead", 1, tower.face(0, 0));
        CHECK.due("25: none remains", 0, tower.undo());
        CHECK.due("25: the first state", 0, tower.face(0, 0));
        CHECK.due("25: no more", TowerFaces.NOT_POSSIBLE, tower.undo());
        CHECK.due("25: the state stays", 0, tower.face(0, 0));
    }

    private static void undoKeepsFive() {
        for (int calls = 5; calls < 20; calls++) {
            TowerFaces tower = new TowerFaces();
            for (int call = 1; call <= calls; call++) {
                tower.dial(2, call);
            }
            for (int left = 4; left >= 0; left--) {
                CHECK.due("25: states left", left, tower.undo());
                CHECK.due("25: dial", calls - 5 + left, tower.face(2, 0));
            }
            CHECK.due("25: no sixth state", TowerFaces.NOT_POSSIBLE, tower.undo());
            CHECK.due("25: dial stays", calls - 5, tower.face(2, 0));
        }
    }

    /** Each of these makes no difference, but records. */
    private static void undoOfEachCall() {
        TowerFaces tower = new TowerFaces();
        tower.hire(0, 0);
        tower.save();
        for (int call = 0; call < 6; call++) {
            while (tower.undo() > 0) {
                continue;
            }
            if (call == 5) {
                Texts.put(tower, "o1");
            }
            callWithoutDifference(tower, call);
            CHECK.due("25: call " + call + " is recorded", 0, tower.undo());
            tower.restore();
        }
    }

    private static void callWithoutDifference(TowerFaces tower, int call) {
        switch (call) {
            case 0:
                tower.set(0, 3);
                break;
            case 1:
                tower.gear(0, 20);
                break;
            case 2:
                tower.oil(0);
                break;
            case 3:
                tower.dial(0, 0);
                break;
            case 4:
                tower.restore();
                break;
            default:
                tower.work();
                break;
        }
    }

    private static void undoBringsAllBack() {
        TowerFaces tower = busyTower();
        int[] ahead = Answers.of(tower);
        tower.save();
        for (int call = 0; call < 5; call++) {
            change(tower);
            CHECK.due("25: undo", 4, tower.undo());
            Answers.compare(CHECK, "25", ahead, Answers.of(tower));
        }
        change(tower);
        tower.restore();
        Answers.compare(CHECK, "27", ahead, Answers.of(tower));
    }

    private static TowerFaces busyTower() {
        TowerFaces tower = new TowerFaces();
        tower.hire(30, -4);
        tower.hire(800, 14);
        tower.bell(2);
        tower.dial(1, 200);
        tower.set(1, 7);
        tower.gear(3, 11);
        tower.pass(1000);
        return tower;
    }

    /** Changes all that a state holds, with one recorded call. */
    private static void change(TowerFaces tower) {
        Texts.put(tower, "w2000;o0;b2;b3;f200:07;k00:01+5;k20:01+6;k13:00-7;w1500");
        tower.work();
    }

    private static void undoLeavesBufferAndSavedState() {
        TowerFaces tower = new TowerFaces();
        tower.dial(0, 100);
        tower.append('w');
        tower.save();
        tower.dial(0, 200);
        tower.append('1');
        CHECK.due("25: undo", 1, tower.undo());
        CHECK.due("25: undo", 0, tower.undo());
        CHECK.due("25: the buffer stays", 2, tower.clearText());
        CHECK.due("27: the saved state stays", 0, tower.restore());
        CHECK.due("27: which is the one saved", 100, tower.face(0, 0));
    }

    private static void failingCallsRecordNothing() {
        TowerFaces tower = new TowerFaces();
        tower.set(0, 0);
        tower.gear(4, 20);
        tower.gear(0, 9);
        tower.oil(4);
        tower.dial(0, 720);
        tower.bell(-1);
        tower.pass(0);
        tower.hire(1440, 0);
        tower.dismiss(0);
        tower.reset();
        tower.work();
        tower.restore();
        tower.append(0);
        CHECK.due("25: nothing is recorded", TowerFaces.NOT_POSSIBLE, tower.undo());
    }

    private static void save() {
        TowerFaces tower = new TowerFaces();
        CHECK.due("26: time 0", 0, tower.save());
        tower.pass(15);
        CHECK.due("26: time", 15, tower.save());
        CHECK.due("26: save records nothing", 0, tower.undo());
        CHECK.due("26: the state is another now", 0, tower.total(0));
        CHECK.due("26: the last one saved", 15, tower.restore());
        CHECK.due("26: saved again", 15, tower.save());
    }

    private static void restore() {
        TowerFaces tower = new TowerFaces();
        CHECK.due("27: nothing saved", TowerFaces.NOT_POSSIBLE, tower.restore());
        tower.dial(0, 9);
        tower.save();
        tower.pass(70);
        tower.append('x');
        CHECK.due("27: time then", 0, tower.restore());
        CHECK.due("27: the buffer stays", 1, tower.clearText());
        CHECK.due("27: dial", 9, tower.face(0, 0));
        tower.pass(33);
        CHECK.due("27: dial goes on", 42, tower.face(0, 0));
        CHECK.due("27: it remains saved", 0, tower.restore());
        CHECK.due("27: and unchanged", 9, tower.face(0, 0));
        CHECK.due("27: undo", 4, tower.undo());
        CHECK.due("27: undone", 33, tower.total(0));
        CHECK.due("27: undo", 3, tower.undo());
        CHECK.due("27: undo", 2, tower.undo());
        CHECK.due("27: undone", 70, tower.total(0));
    }
}
