/** Promises 8 and 11: the edges of a minute, each with the step that just reaches it and the step ahead. */
final class MinuteTest {
    private static final Check CHECK = new Check("MinuteTest");

    public static void main(String[] args) {
        gearSlipsAtItsTeeth();
        strainKeepsWhatIsLeft();
        loadStrainsGears();
        eachThirdSlipWears();
        thirdSlipCountsOnBehindGearAndOil();
        wearEndsAtNine();
        wearEndsAtZero();
        bellsOfAllHours();
        bellOfStoppedFace();
        bellAheadOfShaft();
        noStrikeButByAMinute();
        shaftSlipsAtItsGrip();
        shaftAtTheGreatestGrip();
        shaftFeelsWearOfThisMinute();
        noonAlone();
        noonBehindShaft();
        noonOfEachKeeper();
        tolerance();
        toleranceAtNoon();
        strainOfFacesSet();
        lastTime();
        workAtLastTime();
        predictionsBeyondLastTime();
        CHECK.end();
    }

    /** A tower whose shaft stays, and whose face 0 has these teeth. */
    private static TowerFaces geared(int teeth, int load) {
        TowerFaces tower = new TowerFaces();
        tower.set(0, load);
        tower.set(2, 5000);
        tower.gear(0, teeth);
        return tower;
    }

    private static void gearSlipsAtItsTeeth() {
        int[][] rows = {{10, 1, 100, 0}, {60, 1, 600, 0}, {12, 3, 40, 0}, {10, 3, 34, 2}, {10, 9, 12, 8}, {60, 9, 67, 3}};
        for (int[] row : rows) {
            String what = "8: " + row[0] + " teeth, load " + row[1];
            TowerFaces tower = geared(row[0], row[1]);
            tower.pass(row[2] - 1);
            CHECK.due(what + ", no slip yet", 0, tower.face(0, 4));
            CHECK.due(what + ", strain ahead", row[1] * (row[2] - 1), tower.face(0, 2));
            CHECK.due(what + ", dial ahead", row[2] - 1, tower.face(0, 0));
            tower.pass(1);
            CHECK.due(what + ", slip", 1, tower.face(0, 4));
            CHECK.due(what + ", strain behind", row[3], tower.face(0, 2));
            CHECK.due(what + ", the dial stays", row[2] - 1, tower.face(0, 0));
            tower.pass(1);
            CHECK.due(what + ", the dial goes on", row[2], tower.face(0, 0));
        }
    }

    private static void strainKeepsWhatIsLeft() {
        TowerFaces tower = geared(10, 9);
        // 108 less 100 is 8, so eleven minutes more are 107 and ten are 98.
        tower.pass(22);
        CHECK.due("8: one slip", 1, tower.face(0, 4));
        CHECK.due("8: strain ahead of the second slip", 98, tower.face(0, 2));
        tower.pass(1);
        CHECK.due("8: two slips", 2, tower.face(0, 4));
        CHECK.due("8: strain behind the second slip", 7, tower.face(0, 2));
    }

    private static void loadStrainsGears() {
        for (int load : new int[] {1, 9}) {
            TowerFaces tower = new TowerFaces();
            tower.set(0, load);
            tower.pass(1);
            for (int face = 0; face < 4; face++) {
                CHECK.due("8: strain of a minute, load " + load, load, tower.face(face, 2));
            }
            CHECK.due("8: strain of the shaft, load " + load, load, tower.total(2));
        }
    }

    /** Behind the minutes of each row: the slips, the wear, the strain. */
    private static void eachThirdSlipWears() {
        int[][] rows = {{23, 2, 0, 7}, {33, 2, 0, 97}, {34, 3, 1, 6}, {35, 3, 1, 16}, {44, 4, 1, 6}, {54, 5, 1, 6}, {63, 5, 1, 96},
            {64, 6, 2, 6}, {65, 6, 2, 17}, {73, 7, 2, 5}, {82, 8, 2, 4}, {90, 8, 2, 92}, {91, 9, 3, 3}, {92, 9, 3, 15}};
        for (int[] row : rows) {
            TowerFaces tower = geared(10, 9);
            tower.pass(row[0]);
            CHECK.due("8: slips at " + row[0], row[1], tower.face(0, 4));
            CHECK.due("8: wear at " + row[0], row[2], tower.face(0, 3));
            CHECK.due("8: strain at " + row[0], row[3], tower.face(0, 2));
        }
    }

    private static void thirdSlipCountsOnBehindGearAndOil() {
        TowerFaces tower = geared(10, 9);
        tower.pass(23);
        tower.gear(0, 20);
        tower.oil(0);
        tower.pass(22);
        CHECK.due("8: two slips with the gear ahead", 2, tower.face(0, 4));
        CHECK.due("8: no wear", 0, tower.face(0, 3));
        tower.pass(1);
        CHECK.due("8: the third slip with this gear", 3, tower.face(0, 4));
        CHECK.due("8: wear behind it", 1, tower.face(0, 3));
        CHECK.due("5: oiled", 0, tower.oil(0));
        tower.pass(22);
        CHECK.due("8: still the third slip", 3, tower.face(0, 4));
        tower.pass(1);
        CHECK.due("8: the fourth slip", 4, tower.face(0, 4));
        CHECK.due("8: wears nothing", 0, tower.face(0, 3));
    }

    private static void wearEndsAtNine() {
        int[] seen = new int[40];
        for (int minutes = 1; minutes <= 600; minutes++) {
            TowerFaces tower = geared(10, 9);
            tower.pass(minutes);
            int slips = tower.face(0, 4);
            CHECK.due("8: wear behind " + slips + " slips", Math.min(9, slips / 3), tower.face(0, 3));
            seen[Math.min(slips, 39)]++;
        }
        for (int slips = 0; slips < 40; slips++) {
            CHECK.holds("8: there were " + slips + " slips", seen[slips] > 0);
        }
        TowerFaces worn = geared(10, 9);
        worn.pass(600);
        worn.gear(0, 10);
        worn.pass(1);
        CHECK.due("8: strain of load and wear at most", 18, worn.face(0, 2));
        CHECK.due("5: the greatest wear less 1", 8, worn.oil(0));
        worn.pass(1);
        CHECK.due("8: strain of load and wear then", 17, worn.face(0, 2));
    }

    private static void wearEndsAtZero() {
        TowerFaces tower = geared(10, 9);
        tower.pass(64);
        CHECK.due("5: wear 2 becomes 1", 1, tower.oil(0));
        CHECK.due("5: wear 1 becomes 0", 0, tower.oil(0));
        CHECK.due("5: wear 0 stays", 0, tower.oil(0));
        CHECK.due("14: wear 0", 0, tower.face(0, 3));
        tower.pass(1);
        CHECK.due("8: strain without wear", 9, tower.face(0, 2));
    }

    private static void bellsOfAllHours() {
        for (int dial = 0; dial < 720; dial++) {
            TowerFaces tower = new TowerFaces();
            tower.bell(3);
            tower.dial(3, dial);
            int then = (dial + 1) % 720;
            int due = then % 60 != 0 ? 0 : then == 0 ? 12 : then / 60;
            CHECK.due("8: strikes behind the dial " + dial, due, tower.pass(1));
            CHECK.due("14: strikes of this bell", due, tower.face(3, 6));
            CHECK.due("15: strikes of all bells", due, tower.total(5));
            tower.bell(3);
            tower.dial(3, dial);
            CHECK.due("8: no strikes without a bell", 0, tower.pass(1));
        }
    }

    private static void bellOfStoppedFace() {
        for (int dial : new int[] {59, 60, 0, 719}) {
            TowerFaces tower = new TowerFaces();
            tower.pass(66);
            int strikes = tower.total(5);
            tower.dial(0, dial);
            CHECK.due("8: a slip at " + dial + " strikes nothing", 0, tower.pass(1));
            CHECK.due("8: the dial stays at " + dial, dial, tower.face(0, 0));
            CHECK.due("15: strikes so far", strikes, tower.total(5));
        }
    }

    /** The bell strikes at the dial of the minute, also if the shaft takes it back then. */
    private static void bellAheadOfShaft() {
        int[][] rows = {{59, 1}, {719, 12}, {60, 0}, {0, 0}, {58, 0}};
        for (int[] row : rows) {
            TowerFaces tower = new TowerFaces();
            tower.set(2, 100);
            tower.pass(33);
            tower.dial(0, row[0]);
            CHECK.due("8: strikes behind " + row[0], row[1], tower.pass(1));
            CHECK.due("8: the shaft slips", 1, tower.total(3));
            CHECK.due("8: the dial is " + row[0] + " again", row[0], tower.face(0, 0));
        }
    }

    private static void noStrikeButByAMinute() {
        TowerFaces tower = new TowerFaces();
        tower.dial(0, 59);
        tower.dial(0, 60);
        tower.dial(0, 0);
        CHECK.due("6: no bell strikes by hand", 0, tower.total(5));
        tower.pass(60);
        tower.dial(0, 300);
        tower.hire(0, 0);
        tower.set(1, 0);
        tower.reset();
        CHECK.due("11: set to the hour", 60, tower.face(0, 0));
        CHECK.due("11: no bell strikes by a reset", 1, tower.total(5));
    }

    private static void shaftSlipsAtItsGrip() {
        int[][] rows = {{100, 1, 100}, {100, 3, 34}, {102, 3, 34}, {103, 3, 35}, {100, 9, 12}};
        for (int[] row : rows) {
            String what = "8: grip " + row[0] + ", load " + row[1];
            TowerFaces tower = new TowerFaces();
            tower.set(2, row[0]);
            tower.set(0, row[1]);
            tower.pass(row[2] - 1);
            CHECK.due(what + ", ahead", 0, tower.total(3));
            CHECK.due(what + ", strain ahead", row[1] * (row[2] - 1), tower.total(2));
            CHECK.due(what + ", dial ahead", row[2] - 1, tower.face(3, 0));
            tower.pass(1);
            CHECK.due(what + ", slips", 1, tower.total(3));
            CHECK.due(what + ", strain becomes 0", 0, tower.total(2));
            for (int face = 0; face < 4; face++) {
                CHECK.due(what + ", each dial goes back", row[2] - 1, tower.face(face, 0));
            }
        }
    }

    /** Without any slip of a gear the shaft takes 5000 minutes to slip at the load 1. */
    private static void shaftAtTheGreatestGrip() {
        TowerFaces tower = Towers.atTime(0);
        for (int part = 0; part < 10; part++) {
            tower.pass(part < 9 ? 500 : 499);
            for (int face = 0; face < 4; face++) {
                tower.oil(face);
            }
        }
        CHECK.due("8: no gear slips", 0, tower.total(4));
        CHECK.due("8: strain just below the greatest grip", 4999, tower.total(2));
        CHECK.due("8: the shaft has not slipped", 0, tower.total(3));
        tower.pass(1);
        CHECK.due("8: strain at the greatest grip", 0, tower.total(2));
        CHECK.due("8: the shaft has slipped", 1, tower.total(3));
        CHECK.due("8: the dial", 4999 % 720, tower.face(2, 0));
    }

    /** At 34 minutes face 0 wears: the shaft is at 9 * 34, and 1 more. */
    private static void shaftFeelsWearOfThisMinute() {
        for (int grip = 306; grip <= 308; grip++) {
            TowerFaces tower = geared(10, 9);
            tower.set(2, grip);
            tower.pass(34);
            CHECK.due("8: wear", 1, tower.face(0, 3));
            CHECK.due("8: shaft slips at the grip " + grip, grip <= 307 ? 1 : 0, tower.total(3));
            CHECK.due("8: shaft strain at the grip " + grip, grip <= 307 ? 0 : 307, tower.total(2));
        }
    }

    private static void noonAlone() {
        int[][] rows = {{718, 0}, {719, 1}, {720, 0}, {721, 0}, {0, 0}, {1438, 0}, {1439, 0}, {1440, 0}};
        for (int[] row : rows) {
            TowerFaces tower = new TowerFaces();
            if (row[0] > 0) {
                tower.pass(row[0]);
            }
            tower.hire(0, 0);
            tower.set(1, 60);
            tower.dial(2, (row[0] + 360) % 720);
            tower.pass(1);
            CHECK.due("8: faces set at " + (row[0] + 1), row[1], tower.total(6));
        }
        TowerFaces secondDay = Towers.atTime(1799);
        secondDay.pass(360);
        secondDay.hire(0, 0);
        secondDay.set(1, 60);
        secondDay.dial(3, 300);
        secondDay.pass(1);
        CHECK.due("8: the noon of the second day", 1, secondDay.total(6));
        CHECK.due("8: is the time 2160", 2160, secondDay.total(0));
        CHECK.due("8: without keepers no noon resets", 0, atNoonWithoutKeepers().total(6));
        CHECK.due("8: no dial is set", 301, atNoonWithoutKeepers().face(1, 0));
    }

    private static TowerFaces atNoonWithoutKeepers() {
        TowerFaces tower = Towers.atTime(719);
        tower.dial(1, 300);
        tower.pass(1);
        return tower;
    }

    /** Face 0 comes to 719 at noon, one minute off; the shaft takes it back to 718, two off. */
    private static void noonBehindShaft() {
        for (int grip : new int[] {100, 5000}) {
            TowerFaces tower = Towers.atTime(719);
            tower.hire(0, 0);
            tower.set(2, grip);
            tower.dial(0, 718);
            for (int face = 1; face < 4; face++) {
                tower.dial(face, 719);
            }
            tower.pass(1);
            CHECK.due("8: the shaft slips at noon", grip == 100 ? 1 : 0, tower.total(3));
            CHECK.due("8: faces set, grip " + grip, grip == 100 ? 1 : 0, tower.total(6));
            CHECK.due("8: face 0, grip " + grip, grip == 100 ? 0 : 719, tower.face(0, 0));
            CHECK.due("8: face 1, grip " + grip, grip == 100 ? 719 : 0, tower.face(1, 0));
        }
    }

    private static void noonOfEachKeeper() {
        int[][] rows = {{720, 719, 10}, {721, 719, -20}, {720, 0, 10}, {721, 0, -20}, {719, 1439, 10}, {721, 1439, -20}};
        for (int[] row : rows) {
            TowerFaces tower = new TowerFaces();
            tower.set(1, 0);
            tower.hire(row[0], 10);
            tower.hire(row[1], -20);
            tower.pass(720);
            CHECK.due("8: noon with watches from " + row[0] + " and " + row[1], (720 + row[2]) % 720, tower.face(2, 0));
        }
    }

    private static void tolerance() {
        int[] tolerances = {0, 1, 59, 60};
        for (int tolerance : tolerances) {
            TowerFaces tower = Towers.withDials(tolerance, tolerance + 1, (720 - tolerance) % 720, 719 - tolerance);
            tower.set(1, tolerance);
            tower.hire(0, 0);
            CHECK.due("11: faces beyond the tolerance " + tolerance, 2, tower.reset());
            CHECK.due("11: ahead by the tolerance", tolerance, tower.face(0, 0));
            CHECK.due("11: ahead by one more", 0, tower.face(1, 0));
            CHECK.due("11: behind by the tolerance", (720 - tolerance) % 720, tower.face(2, 0));
            CHECK.due("11: behind by one more", 0, tower.face(3, 0));
            CHECK.due("15: faces set", 2, tower.total(6));
            CHECK.due("11: nothing more is set", 0, tower.reset());
            CHECK.due("15: faces set", 2, tower.total(6));
        }
        TowerFaces opposite = Towers.withDials(360, 359, 361, 0);
        opposite.hire(0, 0);
        CHECK.due("11: the greatest distance is set", 3, opposite.reset());
    }

    private static void toleranceAtNoon() {
        TowerFaces tower = Towers.atTime(719);
        tower.set(1, 5);
        tower.hire(0, 0);
        tower.dial(0, 4);
        tower.dial(1, 5);
        tower.dial(2, 714);
        tower.dial(3, 713);
        tower.pass(1);
        int[] dials = {5, 0, 715, 0};
        int[] strains = {1, 0, 1, 0};
        for (int face = 0; face < 4; face++) {
            CHECK.due("8: dial at noon, face " + face, dials[face], tower.face(face, 0));
            CHECK.due("8: strain at noon, face " + face, strains[face], tower.face(face, 2));
        }
        CHECK.due("8: faces set at noon", 2, tower.total(6));
    }

    private static void strainOfFacesSet() {
        TowerFaces tower = geared(10, 9);
        tower.pass(64);
        tower.hire(0, 0);
        tower.dial(1, 64);
        CHECK.due("11: strain ahead", 6, tower.face(0, 2));
        tower.reset();
        CHECK.due("11: strain of a face that is set", 0, tower.face(0, 2));
        CHECK.due("11: its wear stays", 2, tower.face(0, 3));
        CHECK.due("11: its slips stay", 6, tower.face(0, 4));
        CHECK.due("11: strain of a face that is right", 64 * 9 - 300, tower.face(1, 2));
        CHECK.due("11: the strain of the shaft stays", 64 * 9 + 30 + 2, tower.total(2));
    }

    private static void lastTime() {
        CHECK.holds("8: to the last time in one minute", Towers.aheadOfLastTime(1).pass(1) >= 0);
        CHECK.holds("8: to the last time in many minutes", Towers.aheadOfLastTime(1998).pass(1998) >= 0);
        TowerFaces tower = Towers.aheadOfLastTime(1998);
        CHECK.holds("8: to the minute ahead", tower.pass(1997) >= 0);
        CHECK.due("8: one too many", TowerFaces.LIMIT, tower.pass(2));
        CHECK.holds("8: the last one", tower.pass(1) >= 0);
        CHECK.due("8: none is left", TowerFaces.LIMIT, tower.pass(1));
        CHECK.due("15: the last time", 999999, tower.total(0));
        CHECK.due("15: its minute of the day", 639, tower.total(1));
        CHECK.due("25: back from the last time", 4, tower.undo());
        CHECK.due("15: the time ahead", 999998, tower.total(0));
        CHECK.holds("8: and on again", tower.pass(1) >= 0);
        CHECK.due("26: saved at the last time", 999999, tower.save());
        CHECK.due("27: restored at the last time", 999999, tower.restore());
    }

    private static void workAtLastTime() {
        TowerFaces tower = Towers.aheadOfLastTime(2);
        Texts.put(tower, "w2;w1");
        CHECK.due("24: up to the minute that is too many", 1, tower.work());
        CHECK.due("24: the last time", 999999, tower.total(0));
        CHECK.due("24: the buffer is empty", 0, tower.clearText());
        CHECK.due("25: one state is recorded", 4, tower.undo());
        CHECK.due("25: the time ahead", 999997, tower.total(0));
        TowerFaces stopped = Towers.aheadOfLastTime(2);
        Texts.put(stopped, "w3;b1");
        CHECK.due("24: no minute passes", 0, stopped.work());
        CHECK.due("24: the time stays", 999997, stopped.total(0));
        CHECK.due("24: no work behind it is done", 0, stopped.face(1, 5));
    }

    /** The noon behind the last time is 81 minutes off. All faces are late then, and so are set. */
    private static void predictionsBeyondLastTime() {
        TowerFaces tower = Towers.aheadOfLastTime(0);
        tower.dial(1, 0);
        tower.dial(2, 0);
        tower.dial(3, 360);
        CHECK.holds("18: ahead of noon", tower.spreadIn(80) > 300);
        CHECK.due("18: at noon", 0, tower.spreadIn(81));
        CHECK.due("19: now", 0, tower.minutesTo(360));
        CHECK.due("15: the time stays", 999999, tower.total(0));
        TowerFaces again = Towers.aheadOfLastTime(0);
        Model model = new Model();
        model.hire(0, 0);
        for (int call = 0; call < 500; call++) {
            model.pass(call < 499 ? 2000 : 1999);
        }
        CHECK.due("18: the most minutes", model.spreadIn(2000), again.spreadIn(2000));
        CHECK.due("19: beyond the last time", model.minutesTo(30), again.minutesTo(30));
        CHECK.due("20: beyond the last time", model.bestOil(), again.bestOil());
        CHECK.due("15: the time stays", 999999, again.total(0));
    }
}
