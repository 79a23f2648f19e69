/** Promises 1 to 8: a new object, set, setting, gear, oil, dial, bell, pass. */
final class TowerTest {
    private static final Check CHECK = new Check("TowerTest");

    public static void main(String[] args) {
        newObject();
        setAndSetting();
        gear();
        oil();
        dial();
        bell();
        passCountsMinutes();
        passSlipsGears();
        passSlipsShaft();
        passStrikes();
        passWears();
        passResetsAtNoon();
        CHECK.end();
    }

    private static void newObject() {
        TowerFaces tower = new TowerFaces();
        for (int what = 0; what <= 8; what++) {
            CHECK.due("1: total(" + what + ")", 0, tower.total(what));
        }
        int[][] faces = {{0, 20, 0, 0, 0, 1, 0, 0}, {0, 30, 0, 0, 0, 0, 0, 0},
            {0, 40, 0, 0, 0, 0, 0, 0}, {0, 50, 0, 0, 0, 0, 0, 0}};
        for (int face = 0; face < 4; face++) {
            for (int part = 0; part < 8; part++) {
                CHECK.due("1: face(" + face + ", " + part + ")", faces[face][part], tower.face(face, part));
            }
        }
        CHECK.due("1: load", 3, tower.setting(0));
        CHECK.due("1: tolerance", 1, tower.setting(1));
        CHECK.due("1: grip", 600, tower.setting(2));
        CHECK.due("1: keeperTime", TowerFaces.NONE, tower.keeperTime());
        CHECK.due("1: undo", TowerFaces.NOT_POSSIBLE, tower.undo());
        CHECK.due("1: restore", TowerFaces.NOT_POSSIBLE, tower.restore());
        CHECK.due("1: errorPosition", 0, tower.errorPosition());
        CHECK.due("1: clearText", 0, tower.clearText());
    }

    private static void setAndSetting() {
        TowerFaces tower = new TowerFaces();
        CHECK.due("2: set the load", 3, tower.set(0, 4));
        CHECK.due("2: set the tolerance", 1, tower.set(1, 20));
        CHECK.due("2: set the grip", 600, tower.set(2, 1200));
        CHECK.due("2: set the load again", 4, tower.set(0, 6));
        CHECK.due("3: load", 6, tower.setting(0));
        CHECK.due("3: tolerance", 20, tower.setting(1));
        CHECK.due("3: grip", 1200, tower.setting(2));
        tower.pass(2);
        CHECK.due("8: the load strains the gears", 12, tower.face(0, 2));
        CHECK.due("8: the load strains the shaft", 12, tower.total(2));
    }

    private static void gear() {
        TowerFaces tower = new TowerFaces();
        tower.pass(10);
        CHECK.due("4: strain ahead", 30, tower.face(2, 2));
        CHECK.due("4: gear", 40, tower.gear(2, 10));
        CHECK.due("4: strain behind", 0, tower.face(2, 2));
        CHECK.due("4: strain of another face", 30, tower.face(1, 2));
        CHECK.due("4: teeth", 10, tower.face(2, 1));
        CHECK.due("4: gear again", 10, tower.gear(2, 60));
        tower.pass(1);
        CHECK.due("4: same teeth", 60, tower.gear(2, 60));
        CHECK.due("4: strain behind the same teeth", 0, tower.face(2, 2));
    }

    private static void oil() {
        TowerFaces tower = new TowerFaces();
        tower.set(2, 5000);
        CHECK.due("5: pass", 3 + 2 + 1, tower.pass(200));
        CHECK.due("5: wear", 1, tower.face(0, 3));
        tower.pass(5);
        CHECK.due("5: strain ahead", 20, tower.face(0, 2));
        CHECK.due("5: oil", 0, tower.oil(0));
        CHECK.due("5: strain behind", 0, tower.face(0, 2));
        CHECK.due("5: slips stay", 3, tower.face(0, 4));
        CHECK.due("5: oil of another face", 0, tower.oil(1));
        CHECK.due("5: its strain", 0, tower.face(1, 2));
    }

    private static void dial() {
        TowerFaces tower = new TowerFaces();
        CHECK.due("6: the way on", 100, tower.dial(1, 100));
        CHECK.due("6: the way back", 60, tower.dial(1, 40));
        CHECK.due("6: the short way", 80, tower.dial(1, 680));
        CHECK.due("6: the same", 0, tower.dial(1, 680));
        CHECK.due("6: dial", 680, tower.face(1, 0));
        CHECK.due("6: another dial", 0, tower.face(2, 0));
        tower.pass(3);
        tower.dial(1, 7);
        CHECK.due("6: strain stays", 9, tower.face(1, 2));
    }

    private static void bell() {
        TowerFaces tower = new TowerFaces();
        CHECK.due("7: take down", 0, tower.bell(0));
        CHECK.due("7: hang up", 1, tower.bell(3));
        CHECK.due("7: has none", 0, tower.face(0, 5));
        CHECK.due("7: has one", 1, tower.face(3, 5));
        CHECK.due("7: others stay", 0, tower.face(1, 5));
        CHECK.due("7: face 3 strikes alone", 1, tower.pass(60));
        CHECK.due("7: strikes of face 3", 1, tower.face(3, 6));
        CHECK.due("7: strikes of face 0", 0, tower.face(0, 6));
        CHECK.due("7: hang up again", 1, tower.bell(0));
        // Face 0 slips at 67, so it comes to its second hour a minute behind face 3.
        CHECK.due("7: face 3 strikes two", 2, tower.pass(60));
        CHECK.due("7: then face 0 does", 2, tower.pass(1));
    }

    private static void passCountsMinutes() {
        TowerFaces tower = new TowerFaces();
        CHECK.due("8: some minutes", 0, tower.pass(21));
        CHECK.due("8: time", 21, tower.total(0));
        CHECK.due("8: dial", 21, tower.face(0, 0));
        CHECK.due("8: strain", 63, tower.face(0, 2));
        CHECK.due("8: shaft", 63, tower.total(2));
        tower.pass(1980);
        CHECK.due("8: time", 2001, tower.total(0));
        CHECK.due("8: minute of the day", 561, tower.total(1));
    }

    private static void passSlipsGears() {
        TowerFaces tower = new TowerFaces();
        tower.pass(66);
        CHECK.due("8: strain ahead of a slip", 198, tower.face(0, 2));
        tower.pass(1);
        CHECK.due("8: strain behind a slip", 1, tower.face(0, 2));
        CHECK.due("8: dial stays", 66, tower.face(0, 0));
        CHECK.due("8: others go on", 67, tower.face(1, 0));
        CHECK.due("8: slips", 1, tower.face(0, 4));
        CHECK.due("8: wear", 0, tower.face(0, 3));
    }

    private static void passSlipsShaft() {
        TowerFaces tower = new TowerFaces();
        CHECK.due("8: strikes", 6, tower.pass(199));
        CHECK.due("8: shaft", 597, tower.total(2));
        CHECK.due("8: wear", 0, tower.face(0, 3));
        tower.pass(1);
        int[] dials = {196, 197, 198, 198};
        for (int face = 0; face < 4; face++) {
            CHECK.due("8: dial " + face, dials[face], tower.face(face, 0));
        }
        CHECK.due("8: wear behind the third slip", 1, tower.face(0, 3));
        CHECK.due("8: shaft slipped", 1, tower.total(3));
        CHECK.due("8: shaft", 0, tower.total(2));
        TowerFaces looser = new TowerFaces();
        looser.pass(100);
        looser.set(2, 100);
        looser.pass(1);
        CHECK.due("8: a smaller grip slips with the next minute", 1, looser.total(3));
        CHECK.due("8: nothing of the strain stays", 0, looser.total(2));
    }

    private static void passStrikes() {
        TowerFaces tower = new TowerFaces();
        tower.set(2, 180);
        CHECK.due("8: strikes at one", 1, tower.pass(60));
        CHECK.due("8: shaft takes the dial back", 59, tower.face(0, 0));
        CHECK.due("8: strikes one again", 1, tower.pass(1));
        CHECK.due("8: strikes of the face", 2, tower.face(0, 6));
        for (int hour = 0; hour < 12; hour++) {
            TowerFaces other = new TowerFaces();
            other.bell(2);
            other.dial(0, (hour * 60 + 719) % 720);
            other.dial(2, (hour * 60 + 719) % 720);
            int strikes = hour == 0 ? 12 : hour;
            CHECK.due("8: two bells at " + hour, 2 * strikes, other.pass(1));
            CHECK.due("8: one bell at " + hour, strikes, other.face(2, 6));
            CHECK.due("8: all bells at " + hour, 2 * strikes, other.total(5));
        }
        TowerFaces slipping = new TowerFaces();
        slipping.pass(66);
        slipping.dial(0, 59);
        CHECK.due("8: a slip ahead of the hour", 0, slipping.pass(1));
        CHECK.due("8: the next minute strikes", 1, slipping.pass(1));
    }

    private static void passWears() {
        TowerFaces tower = new TowerFaces();
        tower.pass(2000);
        CHECK.holds("8: the more teeth, the fewer slips", tower.face(0, 4) > tower.face(1, 4)
            && tower.face(1, 4) > tower.face(2, 4) && tower.face(2, 4) > tower.face(3, 4));
        CHECK.holds("8: the shaft slipped", tower.total(3) > 10);
        CHECK.due("8: slips of all gears",
            tower.face(0, 4) + tower.face(1, 4) + tower.face(2, 4) + tower.face(3, 4), tower.total(4));
        for (int face = 0; face < 4; face++) {
            CHECK.due("8: wear of face " + face, Math.min(9, tower.face(face, 4) / 3), tower.face(face, 3));
        }
    }

    private static void passResetsAtNoon() {
        TowerFaces tower = new TowerFaces();
        tower.hire(0, 30);
        tower.hire(720, -7);
        tower.pass(719);
        CHECK.due("8: nothing is reset ahead of noon", 0, tower.total(6));
        tower.pass(1);
        CHECK.due("8: reset at noon", 4, tower.total(6));
        for (int face = 0; face < 4; face++) {
            CHECK.due("8: dial at noon", 713, tower.face(face, 0));
            CHECK.due("8: strain at noon", 0, tower.face(face, 2));
        }
        tower.pass(720);
        CHECK.due("8: nothing is reset at midnight", 4, tower.total(6));
        TowerFaces alone = new TowerFaces();
        alone.pass(720);
        CHECK.due("8: nothing is reset without keepers", 0, alone.total(6));
        CHECK.due("8: the dial is what it is", 13, alone.face(0, 7) - alone.face(3, 7));
    }
}
