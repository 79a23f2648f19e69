/** Counts the answers that are not as due, and ends the test with their number. */
final class Check {
    private static final int MOST_SHOWN = 40;
    private final String name;
    private int asked;
    private int wrong;

    Check(String name) {
        this.name = name;
    }

    void due(String what, long want, long got) {
        asked++;
        if (got == want) {
            return;
        }
        wrong++;
        if (wrong <= MOST_SHOWN) {
            System.out.println(name + ": " + what + " answered " + got + ", due is " + want);
        }
    }

    void holds(String what, boolean holds) {
        due(what, 1, holds ? 1 : 0);
    }

    void same(String what, int[] want, int[] got) {
        due(what + ": length", want.length, got.length);
        for (int place = 0; place < Math.min(want.length, got.length); place++) {
            due(what + ": answer " + place, want[place], got[place]);
        }
    }

    boolean isWrong() {
        return wrong > 0;
    }

    void end() {
        System.out.println(name + ": " + asked + " answers, " + wrong + " wrong");
        System.exit(wrong == 0 && asked > 0 ? 0 : 1);
    }
}
