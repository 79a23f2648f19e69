/**
 * What a call that changes the tower leaves as it is: all that can be asked of a worn
 * tower is looked at ahead of the call and behind it, and only what is due is another
 * then. And works do what their methods do.
 */
final class OnlyTest {
    private static final Check CHECK = new Check("OnlyTest");
    private static final int[] DIALS = {0, 60, 359, 360, 719};

    private final int[] due;
    private final TowerFaces tower;

    public static void main(String[] args) {
        towerIsWorn();
        set();
        gear();
        oil();
        dial();
        bell();
        keepers();
        reset();
        worksOnFaces();
        worksOnKeepers();
        worksThatPass();
        CHECK.end();
    }

    private OnlyTest() {
        tower = worn();
        due = Looks.all(tower);
    }

    /** All faces have strain, wear, slips and strikes, and none is right; the shaft has slipped, faces were set. */
    private static TowerFaces worn() {
        TowerFaces tower = new TowerFaces();
        tower.set(0, 5);
        tower.set(2, 900);
        for (int face = 0; face < 4; face++) {
            tower.gear(face, 10 + 4 * face);
        }
        for (int face = 1; face < 4; face++) {
            tower.bell(face);
        }
        tower.hire(60, -4);
        tower.hire(800, 14);
        tower.pass(1002);
        return tower;
    }

    private static void towerIsWorn() {
        OnlyTest worn = new OnlyTest();
        for (int face = 0; face < 4; face++) {
            for (int part = 0; part < 8; part++) {
                CHECK.holds("14: part " + part + " of face " + face, worn.due[Looks.ofFace(face, part)] > 0);
            }
        }
        for (int what = 0; what < 9; what++) {
            CHECK.holds("15: total " + what, worn.due[Looks.ofTotal(what)] > 0);
        }
    }

    /** All looks are as ahead, but for those that were put on what is due. */
    private void end(String what) {
        CHECK.same(what, due, Looks.all(tower));
    }

    private int dialOf(int face) {
        return due[Looks.ofFace(face, 0)];
    }

    private static int apart(int dial, int other) {
        int on = Math.floorMod(other - dial, 720);
        return Math.min(on, 720 - on);
    }

    /** A dial is due, and with it what the dials are asked for. */
    private void dueDial(int face, int dial) {
        due[Looks.ofFace(face, 0)] = dial;
        due[Looks.ofFace(face, 7)] = apart(dial, due[Looks.ofTotal(0)] % 720);
        int spread = 0;
        for (int one = 0; one < 4; one++) {
            for (int other = 0; other < one; other++) {
                spread = Math.max(spread, apart(dialOf(one), dialOf(other)));
            }
        }
        due[Looks.ofTotal(8)] = spread;
    }

    private static void set() {
        int[][] rows = {{0, 1}, {0, 5}, {0, 9}, {1, 0}, {1, 1}, {1, 60}, {2, 100}, {2, 900}, {2, 5000}};
        for (int[] row : rows) {
            OnlyTest only = new OnlyTest();
            only.tower.set(row[0], row[1]);
            only.due[Looks.ofSetting(row[0])] = row[1];
            only.end("2: set(" + row[0] + ", " + row[1] + ")");
        }
    }

    private static void gear() {
        for (int face = 0; face < 4; face++) {
            for (int teeth : new int[] {10, 22, 60}) {
                OnlyTest only = new OnlyTest();
                only.tower.gear(face, teeth);
                only.due[Looks.ofFace(face, 1)] = teeth;
                only.due[Looks.ofFace(face, 2)] = 0;
                only.end("4: gear(" + face + ", " + teeth + ")");
            }
        }
    }

    private static void oil() {
        for (int face = 0; face < 4; face++) {
            OnlyTest only = new OnlyTest();
            for (int times = 1; times <= 3; times++) {
                int wear = only.tower.oil(face);
                CHECK.due("5: wear then", Math.max(0, only.due[Looks.ofFace(face, 3)] - 1), wear);
                only.due[Looks.ofFace(face, 3)] = wear;
                only.due[Looks.ofFace(face, 2)] = 0;
                only.end("5: oil(" + face + ")");
            }
        }
    }

    private static void dial() {
        for (int face = 0; face < 4; face++) {
            for (int dial : DIALS) {
                OnlyTest only = new OnlyTest();
                CHECK.due("6: distance", apart(only.dialOf(face), dial), only.tower.dial(face, dial));
                only.dueDial(face, dial);
                only.end("6: dial(" + face + ", " + dial + ")");
            }
        }
    }

    private static void bell() {
        for (int face = 0; face < 4; face++) {
            OnlyTest only = new OnlyTest();
            only.tower.bell(face);
            only.due[Looks.ofFace(face, 5)] = 0;
            only.end("7: bell " + face + " is taken down");
            only.tower.bell(face);
            only.due[Looks.ofFace(face, 5)] = 1;
            only.end("7: bell " + face + " is hung up");
        }
    }

    private static void keepers() {
        OnlyTest only = new OnlyTest();
        only.tower.hire(420, 30);
        only.due[Looks.ofTotal(7)] = 3;
        for (int minute = 360; minute < 840; minute += 120) {
            only.due[Looks.ofKeeper(minute, 2)] = minute < 420 ? 420 - minute : 800 - minute;
            only.due[Looks.ofKeeper(minute, 0)] = minute < 420 ? 60 : 420;
            only.due[Looks.ofKeeper(minute, 1)] = minute < 420 ? -4 : 30;
        }
        only.due[Looks.ofKeeper(120, 2)] = 300;
        only.due[Looks.ofKeeper(240, 2)] = 180;
        only.end("9: hire(420, 30)");
        only.tower.dismiss(420);
        only.end("10: dismiss(420)", new OnlyTest().due);
    }

    private void end(String what, int[] looks) {
        System.arraycopy(looks, 0, due, 0, due.length);
        end(what);
    }

    private static void reset() {
        for (int tolerance : new int[] {0, 50, 55, 60}) {
            OnlyTest only = new OnlyTest();
            only.tower.set(1, tolerance);
            only.due[Looks.ofSetting(1)] = tolerance;
            int time = only.tower.keeperTime();
            int set = 0;
            for (int face = 0; face < 4; face++) {
                if (apart(only.dialOf(face), time) > tolerance) {
                    only.dueDial(face, time);
                    only.due[Looks.ofFace(face, 2)] = 0;
                    set++;
                }
            }
            only.due[Looks.ofTotal(6)] += set;
            CHECK.holds("11: some faces are set", set > 0);
            CHECK.due("11: faces that are set", set, only.tower.reset());
            only.end("11: reset, tolerance " + tolerance);
        }
    }

    /** The texts' works and the methods' calls bring the same state about. */
    private static void same(String text, Views.Call... calls) {
        TowerFaces called = worn();
        for (Views.Call call : calls) {
            call.on(called);
        }
        TowerFaces worked = worn();
        Texts.put(worked, text);
        CHECK.due("24: works of " + text, calls.length, worked.work());
        CHECK.same("24: " + text, Looks.all(called), Looks.all(worked));
    }

    private static void worksOnFaces() {
        for (int number = 0; number < 4; number++) {
            int face = number;
            same("o" + face, tower -> tower.oil(face));
            same("o" + face + ";o" + face, tower -> tower.oil(face), tower -> tower.oil(face));
            same("b" + face, tower -> tower.bell(face));
            same("b" + face + ";b" + face, tower -> tower.bell(face), tower -> tower.bell(face));
            for (int minutes : DIALS) {
                String clock = String.format("%02d:%02d", minutes / 60, minutes % 60);
                same("f" + face + clock, tower -> tower.dial(face, minutes));
            }
            same("f" + face + "18:00", tower -> tower.dial(face, 360));
        }
    }

    private static void worksOnKeepers() {
        same("k07:00+30", tower -> tower.hire(420, 30));
        same("k23:59-30", tower -> tower.hire(1439, -30));
        same("k00:00-0", tower -> tower.hire(0, 0));
    }

    private static void worksThatPass() {
        same("w1;w30", tower -> tower.pass(1), tower -> tower.pass(30));
        same("w2000", tower -> tower.pass(2000));
        same("o1;w400;b2;w1", tower -> tower.oil(1), tower -> tower.pass(400), tower -> tower.bell(2), tower -> tower.pass(1));
    }
}
