/** What several tests do with the buffer. */
final class Texts {
    private Texts() {
    }

    /** Empties the buffer and appends a text to it. */
    static void put(TowerFaces tower, String text) {
        tower.clearText();
        for (char sign : text.toCharArray()) {
            tower.append(sign);
        }
    }
}
