/** Towers that several tests begin with. */
final class Towers {
    private Towers() {
    }

    /** Nothing of this tower is as at first: five recorded states, a saved one, a text in the buffer. */
    static TowerFaces busy() {
        TowerFaces tower = unsaved();
        tower.save();
        tower.dial(1, 200);
        tower.hire(800, 14);
        tower.pass(77);
        return tower;
    }

    /** A tower with recorded states and a text in the buffer, but without a saved state. */
    static TowerFaces unsaved() {
        TowerFaces tower = new TowerFaces();
        tower.set(1, 7);
        tower.gear(3, 11);
        tower.bell(2);
        tower.hire(60, -4);
        tower.pass(1000);
        Texts.put(tower, "b1;w7;f203:04");
        return tower;
    }

    static TowerFaces withoutKeepers() {
        TowerFaces tower = busy();
        tower.dismiss(60);
        tower.dismiss(800);
        return tower;
    }

    /** The starts of its six keepers are 60, 200, 400, 600, 800 and 1439. */
    static TowerFaces withSixKeepers() {
        TowerFaces tower = busy();
        tower.hire(1439, 30);
        tower.hire(400, 0);
        tower.hire(200, -30);
        tower.hire(600, 1);
        return tower;
    }

    static TowerFaces withText(String text) {
        TowerFaces tower = busy();
        Texts.put(tower, text);
        return tower;
    }

    static TowerFaces withDials(int first, int second, int third, int fourth) {
        TowerFaces tower = new TowerFaces();
        tower.dial(0, first);
        tower.dial(1, second);
        tower.dial(2, third);
        tower.dial(3, fourth);
        return tower;
    }

    /**
     * A tower at a time of at most 1799, with gears of 60 teeth, a load of 1 and no wear.
     *
     * Its strains are 0 and its shaft is loose, so nothing slips in the next 599 minutes.
     */
    static TowerFaces atTime(int time) {
        TowerFaces tower = new TowerFaces();
        tower.set(0, 1);
        tower.set(2, 5000);
        setGears(tower, 60);
        if (time > 0) {
            tower.pass(time);
        }
        setGears(tower, 60);
        return tower;
    }

    static void setGears(TowerFaces tower, int teeth) {
        for (int face = 0; face < 4; face++) {
            tower.gear(face, teeth);
        }
    }

    /** A tower at the time 999999 less some minutes, 0 to 1998 of them: behind 501 calls. */
    static TowerFaces aheadOfLastTime(int minutes) {
        TowerFaces tower = new TowerFaces();
        tower.hire(0, 0);
        for (int call = 0; call < 499; call++) {
            tower.pass(2000);
        }
        tower.pass(1999 - minutes);
        return tower;
    }
}
