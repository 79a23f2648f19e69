/** Promises 14 to 17: face, total, majority, coming. */
final class FaceTest {
    private static final Check CHECK = new Check("FaceTest");

    public static void main(String[] args) {
        face();
        total();
        spread();
        majority();
        comingOfOneBell();
        comingOfSeveralBells();
        comingWithoutSlips();
        CHECK.end();
    }

    private static void face() {
        TowerFaces tower = new TowerFaces();
        tower.pass(200);
        int[][] rows = {{196, 20, 0, 1, 3, 1, 6, 4}, {197, 30, 0, 0, 2, 0, 0, 3}, {198, 40, 200, 0, 1, 0, 0, 2},
            {198, 50, 100, 0, 1, 0, 0, 2}};
        for (int face = 0; face < 4; face++) {
            for (int part = 0; part < 8; part++) {
                CHECK.due("14: face(" + face + ", " + part + ")", rows[face][part], tower.face(face, part));
            }
        }
        tower.dial(2, 719);
        CHECK.due("14: the short way to the time", 201, tower.face(2, 7));
        tower.dial(2, 560);
        CHECK.due("14: half the dial", 360, tower.face(2, 7));
        tower.pass(600);
        tower.dial(2, 80);
        CHECK.due("14: the time modulo 720", 0, tower.face(2, 7));
    }

    private static void total() {
        TowerFaces tower = new TowerFaces();
        tower.hire(0, 0);
        tower.hire(7, 0);
        tower.pass(200);
        tower.dial(0, 300);
        tower.reset();
        int[] totals = {200, 200, 0, 1, 7, 6, 4, 2, 0};
        for (int what = 0; what < 9; what++) {
            CHECK.due("15: total(" + what + ")", totals[what], tower.total(what));
        }
        tower.pass(10);
        CHECK.due("15: strain of the shaft", 40, tower.total(2));
        tower.pass(1230);
        CHECK.due("15: minute of the day", 0, tower.total(1));
        CHECK.due("15: time", 1440, tower.total(0));
    }

    private static void spread() {
        TowerFaces tower = new TowerFaces();
        tower.dial(0, 100);
        CHECK.due("15: spread", 100, tower.total(8));
        tower.dial(3, 700);
        CHECK.due("15: spread over 0", 120, tower.total(8));
        tower.dial(2, 470);
        CHECK.due("15: spread", 350, tower.total(8));
        tower.dial(2, 460);
        CHECK.due("15: the greatest spread", 360, tower.total(8));
    }

    private static void majority() {
        int[][] rows = {{5, 6, 7, 8, 5}, {5, 6, 6, 8, 6}, {5, 6, 8, 8, 8}, {5, 6, 6, 5, 5}, {9, 6, 6, 9, 9},
            {9, 6, 6, 6, 6}, {7, 7, 3, 3, 7}, {4, 4, 4, 4, 4}, {719, 0, 719, 0, 719}};
        for (int[] row : rows) {
            TowerFaces tower = new TowerFaces();
            for (int face = 0; face < 4; face++) {
                tower.dial(face, row[face]);
            }
            CHECK.due("16: majority", row[4], tower.majority());
        }
        CHECK.due("16: of a new object", 0, new TowerFaces().majority());
    }

    private static void comingOfOneBell() {
        TowerFaces tower = new TowerFaces();
        for (int place = 0; place < 24; place++) {
            CHECK.due("17: face at " + place, 0, tower.coming(place, 0));
            CHECK.due("17: minutes at " + place, 60 * place + 60, tower.coming(place, 1));
            CHECK.due("17: strikes at " + place, place % 12 + 1, tower.coming(place, 2));
        }
        tower.bell(0);
        CHECK.due("17: no bell", TowerFaces.NONE, tower.coming(0, 0));
    }

    private static void comingOfSeveralBells() {
        TowerFaces tower = new TowerFaces();
        tower.bell(2);
        tower.bell(3);
        tower.dial(0, 130);
        tower.dial(1, 59);
        tower.dial(2, 719);
        tower.dial(3, 10);
        int[][] rows = {{2, 1, 12}, {0, 50, 3}, {3, 50, 1}, {2, 61, 1}, {0, 110, 4}, {3, 110, 2}};
        for (int place = 0; place < 6; place++) {
            for (int part = 0; part < 3; part++) {
                CHECK.due("17: coming(" + place + ", " + part + ")", rows[place][part], tower.coming(place, part));
            }
        }
        CHECK.due("17: the last place", 3, tower.coming(23, 0));
        CHECK.due("17: the last place", 50 + 420, tower.coming(23, 1));
        CHECK.due("17: the last place", 8, tower.coming(23, 2));
    }

    private static void comingWithoutSlips() {
        TowerFaces tower = new TowerFaces();
        tower.pass(66);
        tower.dial(0, 59);
        CHECK.due("17: as if nothing slipped", 1, tower.coming(0, 1));
        TowerFaces noon = new TowerFaces();
        noon.hire(0, 0);
        noon.dial(0, 30);
        CHECK.due("17: as if nothing was reset", 30 + 60 * 23, noon.coming(23, 1));
    }
}
