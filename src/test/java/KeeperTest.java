/** Promises 9 to 13: hire, dismiss, reset, keeper, keeperTime. */
final class KeeperTest {
    private static final Check CHECK = new Check("KeeperTest");
    private static final int[] OUTSIDE_DAY = {-1, 1440, Integer.MIN_VALUE, Integer.MAX_VALUE};

    public static void main(String[] args) {
        hire();
        dismiss();
        reset();
        resetBySeveralKeepers();
        keeper();
        keeperTime();
        CHECK.end();
    }

    private static void hire() {
        TowerFaces tower = new TowerFaces();
        for (int start : OUTSIDE_DAY) {
            CHECK.due("9: start out of range", TowerFaces.BAD_VALUE, tower.hire(start, 0));
        }
        for (int wrong : new int[] {-31, 31, Integer.MIN_VALUE, Integer.MAX_VALUE}) {
            CHECK.due("9: wrong out of range", TowerFaces.BAD_VALUE, tower.hire(5, wrong));
        }
        CHECK.due("9: nobody is hired", 0, tower.total(7));
        CHECK.due("9: the last start", 1, tower.hire(1439, 30));
        CHECK.due("9: the first start", 2, tower.hire(0, -30));
        CHECK.due("9: the same start", TowerFaces.NOT_POSSIBLE, tower.hire(0, 1));
        CHECK.due("9: a bad value comes first", TowerFaces.BAD_VALUE, tower.hire(0, 31));
        CHECK.due("9: a third", 3, tower.hire(700, 1));
        CHECK.due("9: a fourth", 4, tower.hire(600, 2));
        CHECK.due("9: a fifth", 5, tower.hire(800, 3));
        CHECK.due("9: a sixth", 6, tower.hire(1, 4));
        CHECK.due("9: a seventh", TowerFaces.LIMIT, tower.hire(2, 5));
        CHECK.due("9: the same start comes first", TowerFaces.NOT_POSSIBLE, tower.hire(800, 5));
        CHECK.due("9: keepers", 6, tower.total(7));
        int[][] keepers = {{0, 0, -30}, {1, 1, 4}, {599, 1, 4}, {600, 600, 2}, {700, 700, 1}, {800, 800, 3},
            {1438, 800, 3}, {1439, 1439, 30}};
        for (int[] row : keepers) {
            CHECK.due("9: start at " + row[0], row[1], tower.keeper(row[0], 0));
            CHECK.due("9: wrong at " + row[0], row[2], tower.keeper(row[0], 1));
        }
        CHECK.due("9: undo", 4, tower.undo());
        CHECK.due("9: undone", 5, tower.total(7));
        CHECK.due("9: undone", 0, tower.keeper(1, 0));
    }

    private static void dismiss() {
        TowerFaces tower = new TowerFaces();
        CHECK.due("10: without keepers", TowerFaces.NO_SUCH, tower.dismiss(0));
        tower.hire(10, 5);
        tower.hire(30, -6);
        tower.hire(20, 7);
        for (int start : new int[] {-1, 0, 11, 1440, Integer.MIN_VALUE, Integer.MAX_VALUE}) {
            CHECK.due("10: no such start", TowerFaces.NO_SUCH, tower.dismiss(start));
        }
        CHECK.due("10: the one in the middle", 7, tower.dismiss(20));
        CHECK.due("10: keepers", 2, tower.total(7));
        CHECK.due("10: twice", TowerFaces.NO_SUCH, tower.dismiss(20));
        CHECK.due("10: the one ahead has the watch", 10, tower.keeper(25, 0));
        CHECK.due("10: the last one stays", -6, tower.keeper(30, 1));
        CHECK.due("10: the first one", 5, tower.dismiss(10));
        CHECK.due("10: the last one has the watch", 30, tower.keeper(12, 0));
        CHECK.due("10: undo", 4, tower.undo());
        CHECK.due("10: undone", 10, tower.keeper(12, 0));
        CHECK.due("10: the last one", -6, tower.dismiss(30));
        CHECK.due("10: the first one", 5, tower.dismiss(10));
        CHECK.due("10: no keepers", 0, tower.total(7));
        CHECK.due("10: nobody on watch", TowerFaces.NONE, tower.keeper(12, 0));
        CHECK.due("10: hired again", 1, tower.hire(10, 5));
    }

    private static void reset() {
        TowerFaces tower = new TowerFaces();
        CHECK.due("11: without keepers", TowerFaces.NOT_POSSIBLE, tower.reset());
        CHECK.due("11: which records nothing", TowerFaces.NOT_POSSIBLE, tower.undo());
        tower.hire(0, 0);
        tower.pass(10);
        tower.dial(0, 5);
        tower.dial(1, 16);
        tower.dial(2, 4);
        tower.set(1, 6);
        CHECK.due("11: within the tolerance", 0, tower.reset());
        CHECK.due("11: dial", 5, tower.face(0, 0));
        tower.set(1, 5);
        CHECK.due("11: two beyond it", 2, tower.reset());
        int[] dials = {5, 10, 10, 10};
        int[] strains = {30, 0, 0, 30};
        for (int face = 0; face < 4; face++) {
            CHECK.due("11: dial " + face, dials[face], tower.face(face, 0));
            CHECK.due("11: strain " + face, strains[face], tower.face(face, 2));
        }
        CHECK.due("11: faces set", 2, tower.total(6));
        CHECK.due("11: no bell strikes", 0, tower.total(5));
        CHECK.due("11: undo", 4, tower.undo());
        CHECK.due("11: dial undone", 16, tower.face(1, 0));
        CHECK.due("11: the call ahead is not undone", 5, tower.setting(1));
        CHECK.due("11: faces set undone", 0, tower.total(6));
        TowerFaces around = new TowerFaces();
        around.hire(0, -3);
        around.set(1, 2);
        CHECK.due("11: over 0", 4, around.reset());
        CHECK.due("11: the time of the keeper", 717, around.face(3, 0));
    }

    private static void resetBySeveralKeepers() {
        TowerFaces tower = new TowerFaces();
        tower.hire(5, 20);
        tower.hire(100, -20);
        CHECK.due("11: the watch of the day before", 4, tower.reset());
        CHECK.due("11: the dial of the day before", 700, tower.face(1, 0));
        tower.pass(5);
        tower.reset();
        CHECK.due("11: the watch begins", 25, tower.face(1, 0));
    }

    private static void keeper() {
        TowerFaces tower = new TowerFaces();
        CHECK.due("12: without keepers", TowerFaces.NONE, tower.keeper(0, 0));
        for (int minute : OUTSIDE_DAY) {
            CHECK.due("12: minute out of range", TowerFaces.BAD_VALUE, tower.keeper(minute, 0));
        }
        for (int part : new int[] {-1, 3, Integer.MIN_VALUE, Integer.MAX_VALUE}) {
            CHECK.due("12: part out of range", TowerFaces.BAD_VALUE, tower.keeper(0, part));
        }
        tower.hire(100, 8);
        for (int minute : new int[] {0, 99, 100, 101, 1439}) {
            CHECK.due("12: start of the only one", 100, tower.keeper(minute, 0));
            CHECK.due("12: wrong of the only one", 8, tower.keeper(minute, 1));
            CHECK.due("12: the only one stays", 1440, tower.keeper(minute, 2));
        }
        tower.hire(1300, -9);
        int[][] rows = {{0, 1300, -9, 100}, {99, 1300, -9, 1}, {100, 100, 8, 1200}, {1299, 100, 8, 1},
            {1300, 1300, -9, 240}, {1439, 1300, -9, 101}};
        for (int[] row : rows) {
            for (int part = 0; part < 3; part++) {
                CHECK.due("12: keeper(" + row[0] + ", " + part + ")", row[part + 1], tower.keeper(row[0], part));
            }
        }
        for (int part : new int[] {-1, 3}) {
            CHECK.due("12: part out of range", TowerFaces.BAD_VALUE, tower.keeper(0, part));
        }
    }

    private static void keeperTime() {
        TowerFaces tower = new TowerFaces();
        CHECK.due("13: without keepers", TowerFaces.NONE, tower.keeperTime());
        tower.hire(0, -30);
        CHECK.due("13: ahead of 0", 690, tower.keeperTime());
        tower.pass(30);
        CHECK.due("13: at 0", 0, tower.keeperTime());
        tower.hire(700, 30);
        tower.pass(669);
        CHECK.due("13: the first one", 669, tower.keeperTime());
        tower.pass(1);
        CHECK.due("13: the second one, beyond 720", 10, tower.keeperTime());
        tower.pass(1439 - 700);
        CHECK.due("13: late", (1439 + 30) % 720, tower.keeperTime());
        tower.pass(1);
        CHECK.due("13: the next day", 690, tower.keeperTime());
    }
}
