/** Promises 18 to 20: spreadIn, minutesTo, bestOil. */
final class PredictionTest {
    private static final Check CHECK = new Check("PredictionTest");

    public static void main(String[] args) {
        spreadIn();
        spreadInWithKeepers();
        minutesTo();
        minutesToIsTheFirst();
        minutesToEndsAt3000();
        bestOil();
        bestOilOfSeveralIsTheLowest();
        nothingChanges();
        CHECK.end();
    }

    private static void spreadIn() {
        TowerFaces tower = new TowerFaces();
        CHECK.due("18: now", 0, tower.spreadIn(0));
        CHECK.due("18: ahead of the first slip", 0, tower.spreadIn(66));
        CHECK.due("18: behind the first slip", 1, tower.spreadIn(67));
        CHECK.due("18: behind the shaft's slip", 2, tower.spreadIn(200));
        for (int minutes : new int[] {1, 99, 100, 500, 1999, 2000}) {
            TowerFaces other = new TowerFaces();
            int predicted = other.spreadIn(minutes);
            other.pass(minutes);
            CHECK.due("18: as it comes in " + minutes, other.total(8), predicted);
        }
        tower.dial(1, 360);
        CHECK.due("18: the spread of the dials now", 360, tower.spreadIn(0));
    }

    private static void spreadInWithKeepers() {
        TowerFaces tower = new TowerFaces();
        tower.hire(0, 0);
        tower.dial(2, 300);
        CHECK.holds("18: ahead of noon", tower.spreadIn(719) > 290);
        CHECK.due("18: noon resets", 0, tower.spreadIn(720));
    }

    private static void minutesTo() {
        TowerFaces tower = new TowerFaces();
        CHECK.due("19: now", 0, tower.minutesTo(0));
        CHECK.due("19: the first slip of face 0", 67, tower.minutesTo(1));
        // Face 1 slipped at 100, faces 2 and 3 go with the time until 134 and 167.
        CHECK.due("19: the second slip of face 0", 134, tower.minutesTo(2));
        tower.dial(2, 359);
        CHECK.due("19: at least", 0, tower.minutesTo(358));
        CHECK.due("19: just so many", 0, tower.minutesTo(359));
        CHECK.due("19: one more by the slip of face 0", 67, tower.minutesTo(360));
    }

    private static void minutesToIsTheFirst() {
        int within = 0;
        int beyond = 0;
        for (int spread = 1; spread <= 360; spread++) {
            TowerFaces tower = new TowerFaces();
            int minutes = tower.minutesTo(spread);
            if (minutes == TowerFaces.NONE) {
                beyond++;
                CHECK.holds("19: not within 2000", tower.spreadIn(2000) < spread);
            } else {
                within++;
                tower.pass(Math.min(minutes - 1, 2000));
                if (minutes - 1 > 2000) {
                    tower.pass(minutes - 1 - 2000);
                }
                CHECK.holds("19: not reached a minute ahead", tower.total(8) < spread);
                tower.pass(1);
                CHECK.holds("19: reached then", tower.total(8) >= spread);
            }
        }
        CHECK.holds("19: some within, some beyond", within > 10 && beyond > 10);
    }

    private static void minutesToEndsAt3000() {
        CHECK.due("19: 2999 minutes", 2999, resetInMinutes(2999).minutesTo(2));
        CHECK.due("19: 3000 minutes", 3000, resetInMinutes(3000).minutesTo(2));
        CHECK.due("19: 3001 minutes", TowerFaces.NONE, resetInMinutes(3001).minutesTo(2));
    }

    /**
     * Makes a tower whose spread is 1 up to the noon at the time 3600 and 60 then.
     *
     * All gears are alike, so slips never change the spread. All faces go slower than
     * the keeper, and at that noon alone face 3 is 61 minutes behind, the others 60.
     */
    private static TowerFaces resetInMinutes(int minutes) {
        TowerFaces tower = new TowerFaces();
        tower.hire(0, 0);
        tower.set(0, 1);
        tower.set(1, 60);
        tower.set(2, 5000);
        for (int face = 0; face < 4; face++) {
            tower.gear(face, 60);
        }
        int slipsToCome = 14;
        for (int face = 0; face < 4; face++) {
            tower.dial(face, 720 - (60 - slipsToCome) - (face == 3 ? 1 : 0));
        }
        tower.pass(3600 - minutes);
        CHECK.due("19: the spread ahead", 1, tower.total(8));
        return tower;
    }

    private static void bestOil() {
        int[] times = new int[4];
        for (int variant = 0; variant < 60; variant++) {
            int best = worn(variant).bestOil();
            CHECK.due("20: variant " + variant, bestByTrying(variant), best);
            if (best >= 0 && best < 4) {
                times[best]++;
            }
        }
        for (int face = 0; face < 4; face++) {
            CHECK.holds("20: some variant has the best face " + face, times[face] > 0);
        }
    }

    private static TowerFaces worn(int variant) {
        TowerFaces tower = new TowerFaces();
        tower.set(0, 1 + variant % 9);
        tower.set(2, 600 + 71 * variant);
        tower.gear(variant % 4, 10);
        tower.gear((variant / 4 + 1) % 4, 11 + variant % 7);
        if (variant % 3 == 0) {
            tower.hire(100 * (variant % 7), variant % 30);
        }
        tower.pass(200 + 29 * variant);
        return tower;
    }

    private static int bestByTrying(int variant) {
        int best = -1;
        int least = Integer.MAX_VALUE;
        for (int oiled = 0; oiled < 4; oiled++) {
            TowerFaces tower = worn(variant);
            tower.oil(oiled);
            tower.pass(1440);
            int sum = 0;
            for (int face = 0; face < 4; face++) {
                sum += tower.face(face, 7);
            }
            if (sum < least) {
                least = sum;
                best = oiled;
            }
        }
        return best;
    }

    private static void bestOilOfSeveralIsTheLowest() {
        CHECK.due("20: a face without strain and wear", 0, new TowerFaces().bestOil());
        TowerFaces tower = new TowerFaces();
        for (int face = 0; face < 4; face++) {
            tower.gear(face, 15);
        }
        tower.pass(777);
        CHECK.due("20: all faces alike", 0, tower.bestOil());
    }

    private static void nothingChanges() {
        Model model = new Model();
        model.set(1, 7);
        model.gear(3, 11);
        model.bell(2);
        model.hire(60, -4);
        model.pass(1000);
        model.dial(1, 200);
        model.hire(800, 14);
        model.pass(77);
        Views.unchanged(CHECK, "18: spreadIn", model.spreadIn(2000), Towers::busy, tower -> tower.spreadIn(2000));
        Views.unchanged(CHECK, "19: minutesTo", model.minutesTo(360), Towers::busy, tower -> tower.minutesTo(360));
        Views.unchanged(CHECK, "20: bestOil", model.bestOil(), Towers::busy, TowerFaces::bestOil);
    }
}
