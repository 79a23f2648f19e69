/** Promises 1 to 8: a new object, set, setting, gear, oil, dial, bell, pass. */
final class TowerTest {
    private static final Check CHECK = new Check("TowerTest");
    private static final int[] OUTSIDE_FACES = {-1, 4, Integer.MIN_VALUE, Integer.MAX_VALUE};

    public static void main(String[] args) {
        newObject();
        setAndSetting();
        gear();
        oil();
        dial();
        bell();
        passCountsMinutes();
        passSlipsGears();
        passSlipsShaft();
        passStrikes();
        passWears();
        passResetsAtNoon();
        passEndsAtLastTime();
        CHECK.end();
    }

    private static void newObject() {
        TowerFaces tower = new TowerFaces();
        for (int what = 0; what <= 8; what++) {
            CHECK.due("1: total(" + what + ")", 0, tower.total(what));
        }
        int[][] faces = {{0, 20, 0, 0, 0, 1, 0, 0}, {0, 30, 0, 0, 0, 0, 0, 0},
            {0, 40, 0, 0, 0, 0, 0, 0}, {0, 50, 0, 0, 0, 0, 0, 0}};
        for (int face = 0; face < 4; face++) {
            for (int part = 0; part < 8; part++) {
                CHECK.due("1: face(" + face + ", " + part + ")", faces[face][part], tower.face(face, part));
            }
        }
        CHECK.due("1: load", 3, tower.setting(0));
        CHECK.due("1: tolerance", 1, tower.setting(1));
        CHECK.due("1: grip", 600, tower.setting(2));
        CHECK.due("1: keeperTime", TowerFaces.NONE, tower.keeperTime());
        CHECK.due("1: undo", TowerFaces.NOT_POSSIBLE, tower.undo());
        CHECK.due("1: restore", TowerFaces.NOT_POSSIBLE, tower.restore());
        CHECK.due("1: errorPosition", 0, tower.errorPosition());
        CHECK.due("1: clearText", 0, tower.clearText());
    }

    private static void setAndSetting() {
        int[] least = {1, 0, 100};
        int[] most = {9, 60, 5000};
        TowerFaces tower = new TowerFaces();
        for (int setting = 0; setting < 3; setting++) {
            int previous = tower.setting(setting);
            CHECK.due("2: set too small", TowerFaces.BAD_VALUE, tower.set(setting, least[setting] - 1));
            CHECK.due("2: set too great", TowerFaces.BAD_VALUE, tower.set(setting, most[setting] + 1));
            CHECK.due("2: set far too small", TowerFaces.BAD_VALUE, tower.set(setting, Integer.MIN_VALUE));
            CHECK.due("2: set far too great", TowerFaces.BAD_VALUE, tower.set(setting, Integer.MAX_VALUE));
            CHECK.due("3: setting behind bad values", previous, tower.setting(setting));
            CHECK.due("2: set the least", previous, tower.set(setting, least[setting]));
            CHECK.due("3: setting", least[setting], tower.setting(setting));
            CHECK.due("2: set the most", least[setting], tower.set(setting, most[setting]));
            CHECK.due("3: setting", most[setting], tower.setting(setting));
        }
        for (int setting : new int[] {-1, 3, Integer.MIN_VALUE, Integer.MAX_VALUE}) {
            CHECK.due("2: no such setting", TowerFaces.BAD_VALUE, tower.set(setting, 5));
            CHECK.due("3: no such setting", TowerFaces.BAD_VALUE, tower.setting(setting));
        }
        for (int left = 4; left >= 0; left--) {
            CHECK.due("2: set is undoable", left, tower.undo());
        }
        CHECK.due("2: bad values record nothing", TowerFaces.NOT_POSSIBLE, tower.undo());
        CHECK.due("2: the first of six calls stays", 1, tower.setting(0));
        CHECK.due("2: undone", 1, tower.setting(1));
        CHECK.due("2: undone", 600, tower.setting(2));
    }

    private static void gear() {
        TowerFaces tower = new TowerFaces();
        tower.pass(10);
        CHECK.due("4: strain ahead", 30, tower.face(2, 2));
        CHECK.due("4: gear", 40, tower.gear(2, 10));
        CHECK.due("4: strain behind", 0, tower.face(2, 2));
        CHECK.due("4: strain of another face", 30, tower.face(1, 2));
        CHECK.due("4: teeth", 10, tower.face(2, 1));
        CHECK.due("4: gear again", 10, tower.gear(2, 60));
        CHECK.due("4: same teeth", 60, tower.gear(2, 60));
        for (int teeth : new int[] {9, 61, -20, Integer.MIN_VALUE, Integer.MAX_VALUE}) {
            CHECK.due("4: teeth out of range", TowerFaces.BAD_VALUE, tower.gear(2, teeth));
        }
        CHECK.due("4: teeth kept", 60, tower.face(2, 1));
        for (int face : OUTSIDE_FACES) {
            CHECK.due("4: no such face", TowerFaces.NO_SUCH, tower.gear(face, 20));
            CHECK.due("4: no such face comes first", TowerFaces.NO_SUCH, tower.gear(face, 9));
        }
        CHECK.due("4: undo", 3, tower.undo());
        CHECK.due("4: undo", 2, tower.undo());
        CHECK.due("4: undo", 1, tower.undo());
        CHECK.due("4: teeth undone", 40, tower.face(2, 1));
        CHECK.due("4: strain undone", 30, tower.face(2, 2));
    }

    private static void oil() {
        TowerFaces tower = new TowerFaces();
        tower.set(2, 5000);
        CHECK.due("5: pass", 3 + 2 + 1, tower.pass(200));
        CHECK.due("5: wear", 1, tower.face(0, 3));
        tower.pass(5);
        CHECK.due("5: strain ahead", 20, tower.face(0, 2));
        CHECK.due("5: oil", 0, tower.oil(0));
        CHECK.due("5: strain behind", 0, tower.face(0, 2));
        CHECK.due("5: slips stay", 3, tower.face(0, 4));
        CHECK.due("5: oil without wear", 0, tower.oil(0));
        CHECK.due("5: wear stays", 0, tower.face(0, 3));
        for (int face : OUTSIDE_FACES) {
            CHECK.due("5: no such face", TowerFaces.NO_SUCH, tower.oil(face));
        }
        CHECK.due("5: undo", 4, tower.undo());
        CHECK.due("5: undo", 3, tower.undo());
        CHECK.due("5: wear undone", 1, tower.face(0, 3));
        CHECK.due("5: strain undone", 20, tower.face(0, 2));
    }

    private static void dial() {
        TowerFaces tower = new TowerFaces();
        CHECK.due("6: to the last minute", 1, tower.dial(1, 719));
        CHECK.due("6: back to 0", 1, tower.dial(1, 0));
        CHECK.due("6: half the dial", 360, tower.dial(1, 360));
        CHECK.due("6: beyond", 359, tower.dial(1, 1));
        CHECK.due("6: the short way", 359, tower.dial(1, 362));
        CHECK.due("6: the same", 0, tower.dial(1, 362));
        CHECK.due("6: the short way back", 2, tower.dial(0, 718));
        CHECK.due("6: a full hour", 118, tower.dial(0, 600));
        CHECK.due("6: no bell strikes", 0, tower.total(5));
        CHECK.due("6: dial", 362, tower.face(1, 0));
        for (int dial : new int[] {-1, 720, Integer.MIN_VALUE, Integer.MAX_VALUE}) {
            CHECK.due("6: out of range", TowerFaces.BAD_VALUE, tower.dial(1, dial));
        }
        for (int face : OUTSIDE_FACES) {
            CHECK.due("6: no such face", TowerFaces.NO_SUCH, tower.dial(face, 5));
            CHECK.due("6: no such face comes first", TowerFaces.NO_SUCH, tower.dial(face, 720));
        }
        tower.pass(3);
        tower.dial(1, 7);
        CHECK.due("6: strain stays", 9, tower.face(1, 2));
        CHECK.due("6: undo", 4, tower.undo());
        CHECK.due("6: dial undone", 365, tower.face(1, 0));
    }

    private static void bell() {
        TowerFaces tower = new TowerFaces();
        CHECK.due("7: take down", 0, tower.bell(0));
        CHECK.due("7: hang up", 1, tower.bell(3));
        CHECK.due("7: has none", 0, tower.face(0, 5));
        CHECK.due("7: has one", 1, tower.face(3, 5));
        CHECK.due("7: others stay", 0, tower.face(1, 5));
        CHECK.due("7: face 3 strikes alone", 1, tower.pass(60));
        CHECK.due("7: strikes of face 3", 1, tower.face(3, 6));
        CHECK.due("7: strikes of face 0", 0, tower.face(0, 6));
        CHECK.due("7: hang up again", 1, tower.bell(0));
        for (int face : OUTSIDE_FACES) {
            CHECK.due("7: no such face", TowerFaces.NO_SUCH, tower.bell(face));
        }
        CHECK.due("7: undo", 3, tower.undo());
        CHECK.due("7: undone", 0, tower.face(0, 5));
    }

    private static void passCountsMinutes() {
        TowerFaces tower = new TowerFaces();
        for (int minutes : new int[] {0, -1, 2001, Integer.MIN_VALUE, Integer.MAX_VALUE}) {
            CHECK.due("8: minutes out of range", TowerFaces.BAD_VALUE, tower.pass(minutes));
        }
        CHECK.due("8: time stays", 0, tower.total(0));
        CHECK.due("8: undo has nothing", TowerFaces.NOT_POSSIBLE, tower.undo());
        CHECK.due("8: one minute", 0, tower.pass(1));
        CHECK.due("8: time", 1, tower.total(0));
        CHECK.due("8: dial", 1, tower.face(0, 0));
        CHECK.due("8: strain", 3, tower.face(0, 2));
        CHECK.due("8: shaft", 3, tower.total(2));
        tower.pass(2000);
        CHECK.due("8: time", 2001, tower.total(0));
        CHECK.due("8: minute of the day", 561, tower.total(1));
        CHECK.due("8: undo", 1, tower.undo());
        CHECK.due("8: undone", 1, tower.total(0));
    }

    private static void passSlipsGears() {
        TowerFaces tower = new TowerFaces();
        tower.pass(66);
        CHECK.due("8: strain ahead of a slip", 198, tower.face(0, 2));
        tower.pass(1);
        CHECK.due("8: strain behind a slip", 1, tower.face(0, 2));
        CHECK.due("8: dial stays", 66, tower.face(0, 0));
        CHECK.due("8: others go on", 67, tower.face(1, 0));
        CHECK.due("8: slips", 1, tower.face(0, 4));
        CHECK.due("8: wear", 0, tower.face(0, 3));
        TowerFaces exact = new TowerFaces();
        exact.gear(0, 12);
        exact.pass(39);
        CHECK.due("8: no slip below the limit", 0, exact.face(0, 4));
        exact.pass(1);
        CHECK.due("8: a slip at the limit", 1, exact.face(0, 4));
        CHECK.due("8: strain at the limit", 0, exact.face(0, 2));
    }

    private static void passSlipsShaft() {
        TowerFaces tower = new TowerFaces();
        CHECK.due("8: strikes", 6, tower.pass(199));
        CHECK.due("8: shaft", 597, tower.total(2));
        CHECK.due("8: wear", 0, tower.face(0, 3));
        tower.pass(1);
        int[] dials = {196, 197, 198, 198};
        for (int face = 0; face < 4; face++) {
            CHECK.due("8: dial " + face, dials[face], tower.face(face, 0));
        }
        CHECK.due("8: wear behind the third slip", 1, tower.face(0, 3));
        CHECK.due("8: shaft slipped", 1, tower.total(3));
        CHECK.due("8: shaft", 0, tower.total(2));
        // The wear of this very minute strains the shaft too: 597 + 3 + 1.
        for (int grip = 601; grip <= 602; grip++) {
            TowerFaces other = new TowerFaces();
            other.set(2, grip);
            other.pass(200);
            CHECK.due("8: shaft slips at grip " + grip, grip == 601 ? 1 : 0, other.total(3));
            CHECK.due("8: shaft strain at grip " + grip, grip == 601 ? 0 : 601, other.total(2));
        }
        TowerFaces back = new TowerFaces();
        back.set(2, 102);
        back.dial(3, 686);
        back.pass(34);
        CHECK.due("8: the shaft takes a dial back over 0", 719, back.face(3, 0));
        TowerFaces looser = new TowerFaces();
        looser.pass(100);
        looser.set(2, 100);
        looser.pass(1);
        CHECK.due("8: a smaller grip slips with the next minute", 1, looser.total(3));
        CHECK.due("8: nothing of the strain stays", 0, looser.total(2));
    }

    private static void passStrikes() {
        TowerFaces tower = new TowerFaces();
        tower.set(2, 180);
        CHECK.due("8: strikes at one", 1, tower.pass(60));
        CHECK.due("8: shaft takes the dial back", 59, tower.face(0, 0));
        CHECK.due("8: strikes one again", 1, tower.pass(1));
        CHECK.due("8: strikes of the face", 2, tower.face(0, 6));
        for (int hour = 0; hour < 12; hour++) {
            TowerFaces other = new TowerFaces();
            other.bell(2);
            other.dial(0, (hour * 60 + 719) % 720);
            other.dial(2, (hour * 60 + 719) % 720);
            int strikes = hour == 0 ? 12 : hour;
            CHECK.due("8: two bells at " + hour, 2 * strikes, other.pass(1));
            CHECK.due("8: one bell at " + hour, strikes, other.face(2, 6));
            CHECK.due("8: all bells at " + hour, 2 * strikes, other.total(5));
        }
        TowerFaces slipping = new TowerFaces();
        slipping.pass(66);
        slipping.dial(0, 59);
        CHECK.due("8: a slip at the hour strikes nothing", 0, slipping.pass(1));
        CHECK.due("8: the next minute strikes", 1, slipping.pass(1));
        slipping.dial(0, 60);
        CHECK.due("8: nothing strikes behind the hour", 0, slipping.pass(1));
    }

    private static void passWears() {
        TowerFaces tower = new TowerFaces();
        tower.gear(1, 10);
        tower.set(0, 9);
        tower.set(2, 5000);
        // 9 a minute: slips at 12, 23 and 34; then 10 a minute.
        tower.pass(33);
        CHECK.due("8: two slips", 2, tower.face(1, 4));
        CHECK.due("8: no wear yet", 0, tower.face(1, 3));
        tower.pass(1);
        CHECK.due("8: three slips", 3, tower.face(1, 4));
        CHECK.due("8: wear", 1, tower.face(1, 3));
        CHECK.due("8: strain", 6, tower.face(1, 2));
        tower.pass(1);
        CHECK.due("8: the strain grows by load and wear", 16, tower.face(1, 2));
        tower.pass(2000);
        CHECK.due("8: wear ends at 9", 9, tower.face(1, 3));
        CHECK.holds("8: many slips", tower.face(1, 4) > 30);
        CHECK.due("5: one wear less", 8, tower.oil(1));
        CHECK.due("5: and one less", 7, tower.oil(1));
        CHECK.due("5: wear", 7, tower.face(1, 3));
        CHECK.due("8: slips of all gears",
            tower.face(0, 4) + tower.face(1, 4) + tower.face(2, 4) + tower.face(3, 4), tower.total(4));
    }

    private static void passResetsAtNoon() {
        TowerFaces tower = new TowerFaces();
        tower.hire(0, 30);
        tower.hire(720, -7);
        tower.pass(719);
        CHECK.due("8: nothing is reset ahead of noon", 0, tower.total(6));
        tower.pass(1);
        CHECK.due("8: reset at noon", 4, tower.total(6));
        for (int face = 0; face < 4; face++) {
            CHECK.due("8: dial at noon", 713, tower.face(face, 0));
            CHECK.due("8: strain at noon", 0, tower.face(face, 2));
        }
        tower.pass(720);
        CHECK.due("8: nothing is reset at midnight", 4, tower.total(6));
        TowerFaces alone = new TowerFaces();
        alone.pass(720);
        CHECK.due("8: nothing is reset without keepers", 0, alone.total(6));
        CHECK.due("8: the dial is what it is", 13, alone.face(0, 7) - alone.face(3, 7));
    }

    private static void passEndsAtLastTime() {
        TowerFaces tower = new TowerFaces();
        for (int call = 0; call < 499; call++) {
            tower.pass(2000);
        }
        CHECK.due("8: time", 998000, tower.total(0));
        CHECK.due("8: beyond the last time", TowerFaces.LIMIT, tower.pass(2000));
        CHECK.due("8: a bad value comes first", TowerFaces.BAD_VALUE, tower.pass(2001));
        CHECK.holds("8: to the last time", tower.pass(1999) >= 0);
        CHECK.due("8: the last time", 999999, tower.total(0));
        CHECK.due("8: no minute more", TowerFaces.LIMIT, tower.pass(1));
        CHECK.holds("18: predictions go on", tower.spreadIn(2000) >= 0);
        Texts.put(tower, "w1");
        CHECK.due("24: no work is done", 0, tower.work());
        CHECK.due("24: the buffer is empty", 0, tower.clearText());
    }
}
