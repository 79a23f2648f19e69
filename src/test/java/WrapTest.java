/**
 * What wraps around: the dials, the minute of the day, the watches that are wrong, and
 * the watch of the day before; the steps across the end in both directions.
 */
final class WrapTest {
    private static final Check CHECK = new Check("WrapTest");

    public static void main(String[] args) {
        dialGoesOn();
        dialGoesBack();
        distanceOfDials();
        spreadAcrossZero();
        distanceFromTime();
        comingAcrossZero();
        minuteOfDay();
        watchAcrossZero();
        watchAcrossLastMinute();
        resetAcrossZero();
        resetAcrossLastMinute();
        keeperOfDayBefore();
        keeperAcrossMidnight();
        keeperTimeAcrossMidnight();
        minutesToNextKeeper();
        textClockBeyondNoon();
        CHECK.end();
    }

    private static void dialGoesOn() {
        for (int face = 0; face < 4; face++) {
            TowerFaces tower = new TowerFaces();
            tower.dial(face, 718);
            for (int due : new int[] {719, 0, 1}) {
                tower.pass(1);
                CHECK.due("8: face " + face + " goes on", due, tower.face(face, 0));
            }
        }
    }

    /** In the 34th minute the shaft takes each dial back to where it was. */
    private static void dialGoesBack() {
        for (int dial : new int[] {0, 719, 1, 718}) {
            for (int face = 0; face < 4; face++) {
                TowerFaces tower = new TowerFaces();
                tower.set(2, 100);
                tower.pass(33);
                tower.dial(face, dial);
                tower.pass(1);
                CHECK.due("8: face " + face + " goes on and back", dial, tower.face(face, 0));
            }
        }
        // A gear that slips in the minute of the shaft's slip: the dial only goes back.
        int[][] stopped = {{0, 719}, {1, 0}, {61, 60}, {719, 718}};
        for (int[] row : stopped) {
            TowerFaces tower = new TowerFaces();
            tower.set(2, 100);
            tower.gear(0, 10);
            tower.pass(33);
            tower.dial(0, row[0]);
            CHECK.due("8: no bell strikes backwards", 0, tower.pass(1));
            CHECK.due("14: nor is a strike counted", 0, tower.face(0, 6));
            CHECK.due("8: slip of the gear", 1, tower.face(0, 4));
            CHECK.due("8: slip of the shaft", 1, tower.total(3));
            CHECK.due("8: the dial goes back from " + row[0], row[1], tower.face(0, 0));
        }
    }

    private static void distanceOfDials() {
        int[][] rows = {{0, 719, 1}, {0, 1, 1}, {1, 719, 2}, {718, 1, 3}, {0, 360, 360}, {0, 359, 359}, {0, 361, 359},
            {719, 359, 360}, {719, 358, 359}, {719, 360, 359}, {100, 460, 360}, {100, 461, 359}, {600, 239, 359}, {600, 240, 360},
            {600, 241, 359}, {5, 5, 0}, {0, 0, 0}, {719, 719, 0}};
        for (int[] row : rows) {
            TowerFaces tower = new TowerFaces();
            tower.dial(1, row[0]);
            CHECK.due("6: from " + row[0] + " to " + row[1], row[2], tower.dial(1, row[1]));
            CHECK.due("6: from " + row[1] + " to " + row[0], row[2], tower.dial(1, row[0]));
        }
    }

    private static void spreadAcrossZero() {
        int[][] rows = {{0, 0, 0, 719, 1}, {719, 0, 1, 718, 3}, {1, 719, 1, 719, 2}, {700, 20, 710, 10, 40}, {0, 240, 480, 0, 240},
            {0, 180, 360, 540, 360}, {0, 180, 359, 0, 359}, {0, 0, 361, 0, 359}, {719, 719, 719, 719, 0}, {360, 0, 0, 0, 360}};
        for (int[] row : rows) {
            TowerFaces tower = Towers.withDials(row[0], row[1], row[2], row[3]);
            CHECK.due("15: spread of " + row[0] + " to " + row[3], row[4], tower.total(8));
            CHECK.due("18: spread now", row[4], tower.spreadIn(0));
            CHECK.due("19: reached now", 0, tower.minutesTo(row[4]));
        }
    }

    private static void distanceFromTime() {
        int[][] rows = {{0, 719, 1}, {1, 719, 2}, {719, 0, 1}, {719, 719, 0}, {720, 719, 1}, {720, 0, 0}, {721, 719, 2}, {721, 1, 0},
            {720, 360, 360}, {1079, 0, 359}, {1080, 0, 360}, {1081, 0, 359}, {1439, 0, 1}, {1440, 0, 0}, {1441, 719, 2}};
        for (int[] row : rows) {
            TowerFaces tower = Towers.atTime(row[0]);
            tower.dial(2, row[1]);
            CHECK.due("14: distance at " + row[0] + " of " + row[1], row[2], tower.face(2, 7));
        }
    }

    private static void comingAcrossZero() {
        int[][] rows = {{719, 1, 12}, {0, 60, 1}, {1, 59, 1}, {659, 1, 11}, {660, 60, 12}, {661, 59, 12}, {59, 1, 1}, {60, 60, 2}};
        for (int[] row : rows) {
            TowerFaces tower = Towers.withDials(row[0], 0, 0, 0);
            CHECK.due("17: minutes from " + row[0], row[1], tower.coming(0, 1));
            CHECK.due("17: strikes from " + row[0], row[2], tower.coming(0, 2));
            for (int place = 1; place < 24; place++) {
                CHECK.due("17: minutes from " + row[0], row[1] + 60 * place, tower.coming(place, 1));
                CHECK.due("17: strikes from " + row[0], (row[2] + place - 1) % 12 + 1, tower.coming(place, 2));
            }
        }
    }

    private static void minuteOfDay() {
        int[][] rows = {{719, 719}, {720, 720}, {721, 721}, {1438, 1438}, {1439, 1439}, {1440, 0}, {1441, 1}};
        for (int[] row : rows) {
            CHECK.due("15: minute of the day at " + row[0], row[1], Towers.atTime(row[0]).total(1));
        }
        TowerFaces tower = Towers.atTime(1439);
        tower.save();
        tower.pass(1);
        CHECK.due("15: on to the next day", 0, tower.total(1));
        tower.undo();
        CHECK.due("25: back to the day before", 1439, tower.total(1));
        tower.pass(2);
        CHECK.due("15: on again", 1, tower.total(1));
        tower.restore();
        CHECK.due("27: back to the day before", 1439, tower.total(1));
        CHECK.due("15: the time", 1439, tower.total(0));
    }

    private static void keeperTimes(int wrong, int[][] rows) {
        for (int[] row : rows) {
            TowerFaces tower = Towers.atTime(row[0]);
            tower.hire(0, wrong);
            CHECK.due("13: time " + row[0] + ", wrong by " + wrong, row[1], tower.keeperTime());
        }
    }

    private static void watchAcrossZero() {
        keeperTimes(-1, new int[][] {{0, 719}, {1, 0}, {2, 1}, {720, 719}, {721, 0}, {1440, 719}, {1441, 0}});
        keeperTimes(-30, new int[][] {{0, 690}, {29, 719}, {30, 0}, {31, 1}, {720, 690}, {749, 719}, {750, 0}, {1440, 690}});
        keeperTimes(0, new int[][] {{0, 0}, {719, 719}, {720, 0}, {1439, 719}, {1440, 0}});
    }

    private static void watchAcrossLastMinute() {
        keeperTimes(1, new int[][] {{0, 1}, {718, 719}, {719, 0}, {720, 1}, {1438, 719}, {1439, 0}, {1440, 1}});
        keeperTimes(30, new int[][] {{0, 30}, {689, 719}, {690, 0}, {691, 1}, {719, 29}, {720, 30}, {1409, 719}, {1410, 0}});
    }

    private static void resetAcrossZero() {
        TowerFaces tower = Towers.withDials(0, 719, 718, 717);
        tower.hire(0, -1);
        CHECK.due("11: watch 719, two faces two minutes off", 1, tower.reset());
        int[] dials = {0, 719, 718, 719};
        for (int face = 0; face < 4; face++) {
            CHECK.due("11: dial of face " + face, dials[face], tower.face(face, 0));
        }
        TowerFaces ahead = Towers.withDials(1, 0, 719, 718);
        ahead.set(1, 0);
        ahead.hire(0, -1);
        CHECK.due("11: watch 719, nothing is tolerated", 3, ahead.reset());
        for (int face = 0; face < 4; face++) {
            CHECK.due("11: dial of face " + face, 719, ahead.face(face, 0));
        }
    }

    private static void resetAcrossLastMinute() {
        TowerFaces tower = Towers.atTime(719);
        tower.hire(0, 1);
        int[] dials = {719, 718, 1, 2};
        for (int face = 0; face < 4; face++) {
            tower.dial(face, dials[face]);
        }
        CHECK.due("11: watch 0, two faces two minutes off", 2, tower.reset());
        int[] dues = {719, 0, 1, 0};
        for (int face = 0; face < 4; face++) {
            CHECK.due("11: dial of face " + face, dues[face], tower.face(face, 0));
        }
    }

    private static TowerFaces withKeepers(int[][] keepers) {
        TowerFaces tower = new TowerFaces();
        for (int[] keeper : keepers) {
            tower.hire(keeper[0], keeper[1]);
        }
        return tower;
    }

    private static void keeperOfDayBefore() {
        int[][] orders = {{0, 1, 2}, {2, 1, 0}, {1, 0, 2}, {2, 0, 1}};
        int[][] keepers = {{100, 8}, {700, -8}, {1300, -9}};
        for (int[] order : orders) {
            TowerFaces tower = withKeepers(new int[][] {keepers[order[0]], keepers[order[1]], keepers[order[2]]});
            int[][] rows = {{0, 1300, -9}, {1, 1300, -9}, {99, 1300, -9}, {100, 100, 8}, {101, 100, 8}, {699, 100, 8}, {700, 700, -8},
                {1299, 700, -8}, {1300, 1300, -9}, {1439, 1300, -9}};
            for (int[] row : rows) {
                CHECK.due("12: start at " + row[0], row[1], tower.keeper(row[0], 0));
                CHECK.due("12: wrong at " + row[0], row[2], tower.keeper(row[0], 1));
            }
            tower.dismiss(1300);
            CHECK.due("12: the greatest start then", 700, tower.keeper(0, 0));
            CHECK.due("12: the greatest start then", 700, tower.keeper(99, 0));
        }
    }

    private static void keeperAcrossMidnight() {
        TowerFaces late = withKeepers(new int[][] {{1439, 3}, {1, 4}});
        int[][] rows = {{1438, 1, 4}, {1439, 1439, 3}, {0, 1439, 3}, {1, 1, 4}, {2, 1, 4}};
        for (int[] row : rows) {
            CHECK.due("12: start at " + row[0], row[1], late.keeper(row[0], 0));
            CHECK.due("12: wrong at " + row[0], row[2], late.keeper(row[0], 1));
        }
        TowerFaces early = withKeepers(new int[][] {{1439, 3}, {0, 4}});
        CHECK.due("12: a watch that begins at 0", 0, early.keeper(0, 0));
        CHECK.due("12: the last minute of the day", 1439, early.keeper(1439, 0));
        CHECK.due("12: the minute ahead", 0, early.keeper(1438, 0));
    }

    private static void keeperTimeAcrossMidnight() {
        TowerFaces tower = Towers.atTime(1438);
        tower.hire(1, 5);
        tower.hire(1439, -5);
        tower.save();
        int[] times = {3, 714, 715, 6};
        for (int step = 0; step < 4; step++) {
            CHECK.due("13: at " + (1438 + step), times[step], tower.keeperTime());
            tower.pass(1);
        }
        for (int step = 3; step >= 0; step--) {
            tower.undo();
            CHECK.due("25: back at " + (1438 + step), times[step], tower.keeperTime());
        }
        TowerFaces first = new TowerFaces();
        first.hire(1, 5);
        first.hire(1439, -5);
        CHECK.due("13: the first minute has the watch of the day before", 715, first.keeperTime());
        CHECK.due("11: which resets", 4, first.reset());
        CHECK.due("11: to its time", 715, first.face(0, 0));
    }

    private static void minutesToNextKeeper() {
        TowerFaces two = withKeepers(new int[][] {{100, 0}, {1300, 0}});
        int[][] rows = {{0, 100}, {1, 99}, {99, 1}, {100, 1200}, {101, 1199}, {1299, 1}, {1300, 240}, {1301, 239}, {1438, 102}, {1439, 101}};
        for (int[] row : rows) {
            CHECK.due("12: minutes at " + row[0], row[1], two.keeper(row[0], 2));
        }
        TowerFaces ends = withKeepers(new int[][] {{0, 0}, {1439, 0}});
        int[][] atEnds = {{0, 1439}, {1, 1438}, {1438, 1}, {1439, 1}};
        for (int[] row : atEnds) {
            CHECK.due("12: minutes at " + row[0], row[1], ends.keeper(row[0], 2));
        }
        TowerFaces beside = withKeepers(new int[][] {{500, 0}, {501, 0}});
        int[][] besides = {{499, 1}, {500, 1}, {501, 1439}, {502, 1438}, {1439, 501}, {0, 500}};
        for (int[] row : besides) {
            CHECK.due("12: minutes at " + row[0], row[1], beside.keeper(row[0], 2));
        }
        for (int start : new int[] {0, 1, 720, 1439}) {
            TowerFaces one = withKeepers(new int[][] {{start, 0}});
            for (int minute : new int[] {0, 1, 719, 720, 1438, 1439}) {
                CHECK.due("12: the only one at " + minute, 1440, one.keeper(minute, 2));
                CHECK.due("12: the only one at " + minute, start, one.keeper(minute, 0));
            }
        }
    }

    private static void textClockBeyondNoon() {
        String[] clocks = {"00:00", "00:01", "11:59", "12:00", "12:01", "23:58", "23:59"};
        int[] dials = {0, 1, 719, 0, 1, 718, 719};
        int[] starts = {0, 1, 719, 720, 721, 1438, 1439};
        for (int place = 0; place < clocks.length; place++) {
            TowerFaces tower = new TowerFaces();
            tower.dial(3, 300);
            Texts.put(tower, "f3" + clocks[place] + ";k" + clocks[place] + "+0");
            CHECK.due("24: works at " + clocks[place], 2, tower.work());
            CHECK.due("24: the dial is taken modulo 12 hours", dials[place], tower.face(3, 0));
            CHECK.due("24: the start is not", starts[place], tower.keeper(500, 0));
        }
    }
}
