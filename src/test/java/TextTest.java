/** Promises 21 to 24: append, clearText, errorPosition, work. */
final class TextTest {
    private static final Check CHECK = new Check("TextTest");

    public static void main(String[] args) {
        append();
        clearText();
        texts();
        unfinished();
        errors();
        everySignInEveryPlace();
        everyNumberOfMinutes();
        everyNumberOfWrong();
        everyClock();
        work();
        workNumbers();
        workStops();
        workUndone();
        workWithoutText();
        CHECK.end();
    }

    private static void append() {
        TowerFaces tower = new TowerFaces();
        CHECK.due("21: one character", 1, tower.append('w'));
        CHECK.due("21: two characters", 2, tower.append('1'));
        CHECK.due("21: any character", 3, tower.append('~'));
        CHECK.due("21: which is kept", 2, tower.errorPosition());
    }

    private static void clearText() {
        TowerFaces tower = new TowerFaces();
        Texts.put(tower, "w1;x");
        CHECK.due("22: four characters", 4, tower.clearText());
        CHECK.due("22: the next one is the first one", 1, tower.append('o'));
        tower.append('3');
        CHECK.due("22: nothing of the text ahead is left", TowerFaces.NONE, tower.errorPosition());
    }

    private static void texts() {
        String[] texts = {"w1", "w9", "w10", "w19", "w100", "w1999", "w2000", "w200", "w201", "w999", "w1000", "o0", "o3", "b0", "b3",
            "f000:00", "f323:59", "f119:09", "f209:50", "k00:00+0", "k00:00-0", "k23:59-30", "k12:00+9",
            "k12:00+10", "k12:00-29", "k20:10-3", "w1;w1", "o0;b1;f212:34;k01:02+3;w4", "b1;b1;b1"};
        for (String text : texts) {
            error(text, TowerFaces.NONE);
        }
    }

    private static void unfinished() {
        String[] texts = {"", "w", "o", "b", "f", "k", "f0", "f01", "f012", "f012:", "f012:3", "f019:", "k2", "k23", "k23:",
            "k23:5", "k23:59", "k23:59+", "w1;", "k00:00+0;", "o0;f", "o0;w"};
        for (String text : texts) {
            error(text, text.length());
        }
    }

    private static void errors() {
        Object[][] rows = {{"x", 0}, {"W1", 0}, {";", 0}, {"1", 0}, {"w0", 1}, {"w;", 1}, {"w-1", 1}, {"w2001", 4},
            {"w2010", 4}, {"w2100", 4}, {"w3000", 4}, {"w9999", 4},
            {"w20000", 5}, {"w10000", 5}, {"w1w", 2}, {"w1;;", 3}, {"w1;x", 3}, {"o4", 1}, {"o00", 2}, {"o:", 1},
            {"b9", 1}, {"b/", 1}, {"f4", 1}, {"f03", 2}, {"f024", 3}, {"f01:", 3}, {"f012;", 4},
            {"f01200", 4}, {"f012:6", 5}, {"f012:000", 7}, {"k3", 1}, {"k24", 2}, {"k1:", 2}, {"k12:60", 4},
            {"k12:00;", 6}, {"k12:000", 6}, {"k12:00*", 6}, {"k12:00+;", 7}, {"k12:00+31", 8}, {"k12:00+40", 8},
            {"k12:00-99", 8}, {"k12:00+00", 8}, {"k12:00+05", 8}, {"k12:00-300", 9}, {"k12:00-100", 9},
            {"k12:00+30;k12:00+32", 18}, {"o0;o1;o2;o3;o4", 13}, {"o0,o1", 2}, {"xo4", 0}, {"o4x", 1}};
        for (Object[] row : rows) {
            String text = (String) row[0];
            error(text, (Integer) row[1]);
        }
    }

    private static void error(String text, int due) {
        TowerFaces tower = new TowerFaces();
        Texts.put(tower, text);
        CHECK.due("23: errorPosition of '" + text + "'", due, tower.errorPosition());
        CHECK.due("23: and again", due, tower.errorPosition());
        CHECK.due("23: which keeps the buffer", text.length(), tower.clearText());
        if (due != TowerFaces.NONE) {
            Texts.put(tower, text);
            CHECK.due("24: work of '" + text + "'", TowerFaces.BAD_TEXT, tower.work());
            CHECK.due("24: which keeps the buffer", text.length(), tower.clearText());
        }
    }

    /** What may stand in each place of "f112:34;k12:34+12;w1234;o1", ahead of which all is as there. */
    private static void everySignInEveryPlace() {
        String text = "f112:34;k12:34+12;w1234;o1";
        String[] allowed = {"fkwob", "0123", "012", "0123456789", ":", "012345", "0123456789", ";", "fkwob", "012",
            "0123456789", ":", "012345", "0123456789", "+-", "0123456789", "0123456789;", ";", "fkwob", "123456789",
            "0123456789;", "0123456789;", "0123456789;", ";", "fkwob", "0123"};
        for (int place = 0; place < text.length(); place++) {
            for (int code = 33; code <= 126; code++) {
                TowerFaces tower = new TowerFaces();
                Texts.put(tower, text.substring(0, place) + (char) code);
                boolean isDue = allowed[place].indexOf(code) < 0;
                boolean isError = tower.errorPosition() == place;
                CHECK.holds("23: '" + (char) code + "' at " + place, isError == isDue);
            }
        }
    }

    private static void position(String text, int due) {
        TowerFaces tower = new TowerFaces();
        Texts.put(tower, text);
        CHECK.due("23: errorPosition of '" + text + "'", due, tower.errorPosition());
    }

    /** From 2001 on the fourth digit is the error, or the fifth one if four digits are a number. */
    private static void everyNumberOfMinutes() {
        position("w0", 1);
        for (int number = 1; number <= 20019; number++) {
            int tooGreat = number < 10000 || number > 20009 ? 4 : 5;
            position("w" + number, number <= 2000 ? TowerFaces.NONE : tooGreat);
            if (number <= 2001) {
                position("w0" + number, 1);
            }
        }
    }

    private static void everyNumberOfWrong() {
        for (String sign : new String[] {"+", "-"}) {
            for (int number = 0; number <= 310; number++) {
                int tooGreat = number >= 100 && number < 310 ? 9 : 8;
                position("k00:00" + sign + number, number <= 30 ? TowerFaces.NONE : tooGreat);
                position("k00:00" + sign + "0" + number, 8);
            }
        }
    }

    private static void everyClock() {
        for (int hours = 0; hours < 100; hours++) {
            for (int minutes = 0; minutes < 100; minutes++) {
                int due = hours > 29 ? 0 : hours > 23 ? 1 : minutes > 59 ? 3 : TowerFaces.NONE;
                String clock = String.format("%02d:%02d", hours, minutes);
                position("f3" + clock, due == TowerFaces.NONE ? due : 2 + due);
                position("k" + clock + "-0", due == TowerFaces.NONE ? due : 1 + due);
            }
        }
    }

    private static void work() {
        TowerFaces tower = new TowerFaces();
        tower.set(2, 5000);
        Texts.put(tower, "w200;o0;b2;f313:07;k23:59-30;f200:00");
        CHECK.due("24: works", 6, tower.work());
        CHECK.due("24: the buffer is empty", 0, tower.clearText());
        CHECK.due("24: time", 200, tower.total(0));
        CHECK.due("24: strikes", 6, tower.total(5));
        CHECK.due("24: wear", 0, tower.face(0, 3));
        CHECK.due("24: slips", 3, tower.face(0, 4));
        CHECK.due("24: bell", 1, tower.face(2, 5));
        CHECK.due("24: dial modulo 12 hours", 67, tower.face(3, 0));
        CHECK.due("24: dial", 0, tower.face(2, 0));
        CHECK.due("24: keepers", 1, tower.total(7));
        CHECK.due("24: start", 1439, tower.keeper(0, 0));
        CHECK.due("24: wrong", -30, tower.keeper(0, 1));
    }

    private static void workNumbers() {
        String[] texts = {"w1", "w10", "w207", "w1999", "w2000"};
        int[] minutes = {1, 10, 207, 1999, 2000};
        for (int place = 0; place < texts.length; place++) {
            TowerFaces tower = new TowerFaces();
            Texts.put(tower, texts[place]);
            CHECK.due("24: " + texts[place], 1, tower.work());
            CHECK.due("24: time of " + texts[place], minutes[place], tower.total(0));
        }
        String[] keepers = {"k00:00+0", "k01:02-0", "k09:58+7", "k10:00-12", "k23:59+30", "k20:31-30"};
        int[][] dues = {{0, 0}, {62, 0}, {598, 7}, {600, -12}, {1439, 30}, {1231, -30}};
        for (int place = 0; place < keepers.length; place++) {
            TowerFaces tower = new TowerFaces();
            Texts.put(tower, keepers[place]);
            CHECK.due("24: " + keepers[place], 1, tower.work());
            CHECK.due("24: start of " + keepers[place], dues[place][0], tower.keeper(0, 0));
            CHECK.due("24: wrong of " + keepers[place], dues[place][1], tower.keeper(0, 1));
        }
        String[] dials = {"f000:00", "f011:59", "f012:00", "f023:59", "f009:41"};
        int[] minutesOfDials = {0, 719, 0, 719, 581};
        for (int place = 0; place < dials.length; place++) {
            TowerFaces tower = new TowerFaces();
            tower.dial(0, 5);
            Texts.put(tower, dials[place]);
            tower.work();
            CHECK.due("24: " + dials[place], minutesOfDials[place], tower.face(0, 0));
        }
    }

    private static void workStops() {
        TowerFaces tower = new TowerFaces();
        tower.hire(60, 1);
        Texts.put(tower, "w5;k01:00+2;w7");
        CHECK.due("24: up to the keeper with the same start", 1, tower.work());
        CHECK.due("24: time", 5, tower.total(0));
        CHECK.due("24: the keeper stays", 1, tower.keeper(60, 1));
        CHECK.due("24: the buffer is empty", 0, tower.clearText());
        Texts.put(tower, "k02:00+0;k03:00+0;k04:00+0;k05:00+0;k06:00+0;k07:00+0");
        CHECK.due("24: up to the seventh keeper", 5, tower.work());
        CHECK.due("24: keepers", 6, tower.total(7));
        Texts.put(tower, "k08:00+0;w1");
        CHECK.due("24: no work at all", 0, tower.work());
        CHECK.due("24: time", 5, tower.total(0));
        CHECK.due("24: the buffer is empty", 0, tower.clearText());
        CHECK.due("24: which records a state", 3, tower.undo());
        CHECK.due("24: and nothing else", 6, tower.total(7));
    }

    private static void workUndone() {
        TowerFaces tower = new TowerFaces();
        tower.dial(1, 3);
        Texts.put(tower, "w5;b1;w6;f002:00;k03:00+4");
        CHECK.due("24: works", 5, tower.work());
        CHECK.due("24: one state for all works", 1, tower.undo());
        CHECK.due("24: time", 0, tower.total(0));
        CHECK.due("24: bell", 0, tower.face(1, 5));
        CHECK.due("24: dial", 3, tower.face(1, 0));
        CHECK.due("24: keepers", 0, tower.total(7));
        CHECK.due("24: the buffer does not come back", 0, tower.clearText());
    }

    private static void workWithoutText() {
        TowerFaces tower = new TowerFaces();
        CHECK.due("24: empty", TowerFaces.BAD_TEXT, tower.work());
        Texts.put(tower, "w5;");
        CHECK.due("24: unfinished", TowerFaces.BAD_TEXT, tower.work());
        CHECK.due("24: no work is done", 0, tower.total(0));
        tower.append('w');
        tower.append('6');
        CHECK.due("24: finished", 2, tower.work());
        CHECK.due("24: time", 11, tower.total(0));
    }
}
