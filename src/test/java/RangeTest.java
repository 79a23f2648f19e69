/**
 * The range of each argument, for all promises: the last value inside on both sides, and
 * the first ones outside, which are refused and change nothing.
 */
final class RangeTest {
    private static final Check CHECK = new Check("RangeTest");

    private interface Call {
        int on(TowerFaces tower, int argument);
    }

    public static void main(String[] args) {
        setting();
        valueOfSetting();
        faceOfEachMethod();
        teeth();
        dial();
        minutesToPass();
        startToHire();
        wrongToHire();
        startToDismiss();
        keeperMinute();
        keeperPart();
        facePart();
        totalWhat();
        comingPlace();
        comingPart();
        minutesToPredict();
        spreadToPredict();
        code();
        CHECK.end();
    }

    private static void outside(String what, int least, int most, int due, Call call) {
        int[] arguments = {least - 1, most + 1, least - 65536, most + 65536, Integer.MIN_VALUE, Integer.MAX_VALUE};
        for (int argument : arguments) {
            Views.unchanged(CHECK, what + " of " + argument, due, Towers::busy, tower -> call.on(tower, argument));
        }
    }

    private static void setting() {
        outside("2: set, setting", 0, 2, TowerFaces.BAD_VALUE, (tower, setting) -> tower.set(setting, 9));
        outside("2: set, setting and value", 0, 2, TowerFaces.BAD_VALUE, (tower, setting) -> tower.set(setting, 0));
        outside("3: setting", 0, 2, TowerFaces.BAD_VALUE, TowerFaces::setting);
        TowerFaces tower = new TowerFaces();
        CHECK.due("2: the first setting", 3, tower.set(0, 5));
        CHECK.due("2: the last setting", 600, tower.set(2, 700));
        CHECK.due("3: the first setting", 5, tower.setting(0));
        CHECK.due("3: the last setting", 700, tower.setting(2));
        CHECK.due("3: the one between", 1, tower.setting(1));
    }

    private static void valueOfSetting() {
        int[][] rows = {{0, 1, 9}, {1, 0, 60}, {2, 100, 5000}};
        for (int[] row : rows) {
            int setting = row[0];
            outside("2: set, value of " + setting, row[1], row[2], TowerFaces.BAD_VALUE,
                (tower, value) -> tower.set(setting, value));
            TowerFaces tower = new TowerFaces();
            tower.set(setting, row[1]);
            CHECK.due("3: the least value of " + setting, row[1], tower.setting(setting));
            CHECK.due("2: the least value was the previous one", row[1], tower.set(setting, row[2]));
            CHECK.due("3: the greatest value of " + setting, row[2], tower.setting(setting));
            CHECK.due("2: the greatest value was the previous one", row[2], tower.set(setting, row[2]));
        }
    }

    private static void faceOfEachMethod() {
        outside("4: gear, face", 0, 3, TowerFaces.NO_SUCH, (tower, face) -> tower.gear(face, 20));
        outside("5: oil, face", 0, 3, TowerFaces.NO_SUCH, TowerFaces::oil);
        outside("6: dial, face", 0, 3, TowerFaces.NO_SUCH, (tower, face) -> tower.dial(face, 5));
        outside("7: bell, face", 0, 3, TowerFaces.NO_SUCH, TowerFaces::bell);
        outside("14: face, face", 0, 3, TowerFaces.NO_SUCH, (tower, face) -> tower.face(face, 1));
        int[][] rows = {{0, 20, 1, 0}, {3, 50, 0, 1}};
        for (int[] row : rows) {
            int face = row[0];
            TowerFaces tower = new TowerFaces();
            CHECK.due("14: teeth of face " + face, row[1], tower.face(face, 1));
            CHECK.due("14: bell of face " + face, row[2], tower.face(face, 5));
            CHECK.due("4: gear of face " + face, row[1], tower.gear(face, 33));
            CHECK.due("4: teeth of face " + face, 33, tower.face(face, 1));
            CHECK.due("5: oil of face " + face, 0, tower.oil(face));
            CHECK.due("6: dial of face " + face, 7, tower.dial(face, 7));
            CHECK.due("6: dial of face " + face + " then", 7, tower.face(face, 0));
            CHECK.due("7: bell of face " + face, row[3], tower.bell(face));
            CHECK.due("7: bell of face " + face + " then", row[3], tower.face(face, 5));
        }
    }

    private static void teeth() {
        for (int face = 0; face < 4; face++) {
            int turned = face;
            outside("4: gear, teeth of " + face, 10, 60, TowerFaces.BAD_VALUE, (tower, teeth) -> tower.gear(turned, teeth));
            TowerFaces tower = new TowerFaces();
            CHECK.due("4: the fewest teeth", 20 + 10 * face, tower.gear(face, 10));
            CHECK.due("4: the fewest teeth then", 10, tower.face(face, 1));
            CHECK.due("4: the most teeth", 10, tower.gear(face, 60));
            CHECK.due("4: the most teeth then", 60, tower.face(face, 1));
        }
    }

    private static void dial() {
        for (int face = 0; face < 4; face++) {
            int turned = face;
            outside("6: dial, dial of " + face, 0, 719, TowerFaces.BAD_VALUE, (tower, dial) -> tower.dial(turned, dial));
            TowerFaces tower = new TowerFaces();
            CHECK.due("6: the last dial", 1, tower.dial(face, 719));
            CHECK.due("6: the last dial then", 719, tower.face(face, 0));
            CHECK.due("6: the first dial", 1, tower.dial(face, 0));
            CHECK.due("6: the first dial then", 0, tower.face(face, 0));
        }
    }

    private static void minutesToPass() {
        outside("8: pass, minutes", 1, 2000, TowerFaces.BAD_VALUE, TowerFaces::pass);
        TowerFaces tower = new TowerFaces();
        CHECK.due("8: the fewest minutes", 0, tower.pass(1));
        CHECK.due("8: time behind one minute", 1, tower.total(0));
        CHECK.holds("8: the most minutes", tower.pass(2000) > 0);
        CHECK.due("8: time behind 2000 more", 2001, tower.total(0));
    }

    private static void startToHire() {
        outside("9: hire, start", 0, 1439, TowerFaces.BAD_VALUE, (tower, start) -> tower.hire(start, 0));
        TowerFaces tower = new TowerFaces();
        CHECK.due("9: the first start", 1, tower.hire(0, 4));
        CHECK.due("9: the last start", 2, tower.hire(1439, 5));
        CHECK.due("12: the first start", 0, tower.keeper(0, 0));
        CHECK.due("12: the last start", 1439, tower.keeper(1439, 0));
    }

    private static void wrongToHire() {
        outside("9: hire, wrong", -30, 30, TowerFaces.BAD_VALUE, (tower, wrong) -> tower.hire(500, wrong));
        TowerFaces tower = new TowerFaces();
        CHECK.due("9: the slowest watch", 1, tower.hire(300, -30));
        CHECK.due("9: the fastest watch", 2, tower.hire(600, 30));
        CHECK.due("12: the slowest watch", -30, tower.keeper(300, 1));
        CHECK.due("12: the fastest watch", 30, tower.keeper(600, 1));
        CHECK.due("10: the slowest watch", -30, tower.dismiss(300));
        CHECK.due("10: the fastest watch", 30, tower.dismiss(600));
    }

    private static void startToDismiss() {
        Views.Maker endsOfDay = () -> {
            TowerFaces tower = Towers.busy();
            tower.hire(0, 8);
            tower.hire(1439, -9);
            return tower;
        };
        for (int start : new int[] {-1, 1, 59, 61, 1438, 1440, 1500, Integer.MIN_VALUE, Integer.MAX_VALUE}) {
            Views.unchanged(CHECK, "10: dismiss(" + start + ")", TowerFaces.NO_SUCH, endsOfDay, tower -> tower.dismiss(start));
        }
        TowerFaces tower = endsOfDay.make();
        CHECK.due("10: the first start", 8, tower.dismiss(0));
        CHECK.due("10: the last start", -9, tower.dismiss(1439));
        CHECK.due("10: the others stay", 2, tower.total(7));
    }

    private static void keeperMinute() {
        for (int part = 0; part < 3; part++) {
            int asked = part;
            outside("12: keeper, minute, part " + part, 0, 1439, TowerFaces.BAD_VALUE,
                (tower, minute) -> tower.keeper(minute, asked));
        }
        int[][] rows = {{0, 800, 14, 60}, {1439, 800, 14, 61}};
        for (int[] row : rows) {
            for (int part = 0; part < 3; part++) {
                CHECK.due("12: part " + part + " at " + row[0], row[1 + part], Towers.busy().keeper(row[0], part));
            }
        }
    }

    private static void keeperPart() {
        outside("12: keeper, part", 0, 2, TowerFaces.BAD_VALUE, (tower, part) -> tower.keeper(0, part));
        CHECK.due("12: the first part", 60, Towers.busy().keeper(700, 0));
        CHECK.due("12: the last part", 100, Towers.busy().keeper(700, 2));
    }

    private static void facePart() {
        for (int face = 0; face < 4; face++) {
            int seen = face;
            outside("14: face, part of " + face, 0, 7, TowerFaces.BAD_VALUE, (tower, part) -> tower.face(seen, part));
        }
        TowerFaces tower = new TowerFaces();
        tower.dial(1, 719);
        CHECK.due("14: the first part", 719, tower.face(1, 0));
        CHECK.due("14: the last part", 1, tower.face(1, 7));
    }

    private static void totalWhat() {
        outside("15: total", 0, 8, TowerFaces.BAD_VALUE, TowerFaces::total);
        TowerFaces tower = new TowerFaces();
        tower.pass(4);
        tower.dial(1, 9);
        CHECK.due("15: the first one", 4, tower.total(0));
        CHECK.due("15: the last one", 5, tower.total(8));
    }

    private static void comingPlace() {
        for (int part = 0; part < 3; part++) {
            int asked = part;
            outside("17: coming, place, part " + part, 0, 23, TowerFaces.BAD_VALUE,
                (tower, place) -> tower.coming(place, asked));
        }
        TowerFaces tower = Towers.withDials(58, 0, 0, 0);
        tower.bell(3);
        int[][] rows = {{0, 0, 2, 1}, {1, 3, 60, 1}, {22, 0, 662, 12}, {23, 3, 720, 12}};
        for (int[] row : rows) {
            for (int part = 0; part < 3; part++) {
                CHECK.due("17: coming(" + row[0] + ", " + part + ")", row[1 + part], tower.coming(row[0], part));
            }
        }
    }

    private static void comingPart() {
        outside("17: coming, part", 0, 2, TowerFaces.BAD_VALUE, (tower, part) -> tower.coming(0, part));
        TowerFaces tower = Towers.withDials(0, 0, 0, 299);
        tower.bell(0);
        tower.bell(3);
        CHECK.due("17: the first part", 3, tower.coming(0, 0));
        CHECK.due("17: the last part", 5, tower.coming(0, 2));
    }

    private static void minutesToPredict() {
        outside("18: spreadIn", 0, 2000, TowerFaces.BAD_VALUE, TowerFaces::spreadIn);
        CHECK.due("18: the fewest minutes", 301, Towers.withDials(100, 300, 0, 719).spreadIn(0));
        // The noons of the times 720 and 2160 come in 560 and in 2000 minutes; face 0
        // alone slips ahead of the first one, at 100, 200, 300, 350, 400, 450, 484, 517, 550.
        TowerFaces tower = Towers.atTime(160);
        tower.hire(0, 0);
        tower.set(1, 0);
        tower.gear(0, 10);
        CHECK.due("18: ahead of the first noon", 9, tower.spreadIn(559));
        CHECK.due("18: at the first noon", 0, tower.spreadIn(560));
        CHECK.holds("18: ahead of the second noon", tower.spreadIn(1999) > 9);
        CHECK.due("18: the most minutes", 0, tower.spreadIn(2000));
    }

    private static void spreadToPredict() {
        outside("19: minutesTo", 0, 360, TowerFaces.BAD_VALUE, TowerFaces::minutesTo);
        CHECK.due("19: the least spread", 0, new TowerFaces().minutesTo(0));
        CHECK.due("19: the greatest spread, now", 0, Towers.withDials(0, 0, 360, 0).minutesTo(360));
        CHECK.due("19: the greatest spread, at the first slip", 67, Towers.withDials(0, 0, 359, 0).minutesTo(360));
    }

    private static void code() {
        outside("21: append", 33, 126, TowerFaces.BAD_VALUE, TowerFaces::append);
        TowerFaces tower = new TowerFaces();
        CHECK.due("21: the first code", 1, tower.append(33));
        CHECK.due("21: the last code", 2, tower.append(126));
    }
}
