/** What several tests do with the buffer. */
final class Texts {
    /** A text of twenty works that fills the buffer. */
    static final String SIXTY_SIGNS = "w1;b1;b1;b1;b1;b1;b1;b1;b1;b1;b1;b1;b1;b1;b1;b1;b1;b1;b1;w10";

    private Texts() {
    }

    /** Empties the buffer and appends a text to it. */
    static void put(TowerFaces tower, String text) {
        tower.clearText();
        for (char sign : text.toCharArray()) {
            tower.append(sign);
        }
    }
}
