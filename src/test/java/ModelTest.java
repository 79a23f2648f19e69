/**
 * Runs of calls with made-up arguments, each answered by the program and by the model.
 *
 * The arguments come from a fixed row of numbers, so that every run is the same one.
 */
final class ModelTest {
    private static final Check CHECK = new Check("ModelTest");
    private static final int CALLS = 512;
    /** One work and the ";" ahead of it are appended together: ";k00:00+30". */
    private static final int LONGEST_WORK = 10;
    private static final int RUNS = 400;
    private static final int RUNS_TO_LAST_TIME = 25;
    private static final int[] FAR = {Integer.MIN_VALUE, Integer.MIN_VALUE + 1, -1441, -31, -1, 4, 61, 127, 720,
        1440, 2001, 5001, 65537, Integer.MAX_VALUE - 1, Integer.MAX_VALUE};
    private static final String SIGNS = "fkwob0123456789:+-;x";

    private static long row;
    private static TowerFaces tower;
    private static Model model;

    public static void main(String[] args) {
        for (int run = 1; run <= RUNS && !CHECK.isWrong(); run++) {
            row = 7919L * run;
            tower = new TowerFaces();
            model = new Model();
            if (run % RUNS_TO_LAST_TIME == 0) {
                callsNearLastTime();
            } else {
                calls(run);
            }
        }
        CHECK.end();
    }

    private static void calls(int run) {
        int calls = 0;
        while (calls <= CALLS - LONGEST_WORK) {
            calls += call(run);
        }
    }

    private static void callsNearLastTime() {
        for (int calls = 0; calls < CALLS; calls++) {
            callNearLastTime(calls);
        }
    }

    /** Answers how many calls were made. */
    private static int call(int run) {
        // Each kind of run prefers other calls: works, long times, keepers, undo.
        int kind = run % 5;
        int choice = next(100);
        if (kind == 1 && choice < 70) {
            return works();
        }
        if (kind == 2 && choice < 85) {
            return due("pass", tower.pass(2000), model.pass(2000));
        }
        if (kind == 3 && choice < 60) {
            return keepers(next(5));
        }
        if (kind == 4 && choice < 40) {
            return states(next(3));
        }
        return choice % 3 == 0 ? changes(next(9)) : choice % 3 == 1 ? looks(next(9)) : others(next(10));
    }

    /** The last time is 501 calls off, so that eleven calls are left there. */
    private static void callNearLastTime(int calls) {
        if (calls == 300) {
            keepers(0);
        } else if (calls <= 500) {
            int minutes = calls < 500 ? 2000 : 1999 - next(2);
            due("pass", tower.pass(minutes), model.pass(minutes));
        } else if (next(3) == 0) {
            changes(next(9));
        } else if (next(4) == 0) {
            states(next(3));
        } else {
            looks(3 + next(5));
        }
    }

    private static int changes(int choice) {
        int face = number(0, 3);
        switch (choice) {
            case 0: {
                int setting = number(0, 2);
                int value = next(2) == 0 ? number(1, 9) : number(100, 5000);
                return due("set", tower.set(setting, value), model.set(setting, value));
            }
            case 1: {
                int teeth = number(10, 60);
                return due("gear", tower.gear(face, teeth), model.gear(face, teeth));
            }
            case 2:
                return due("oil", tower.oil(face), model.oil(face));
            case 3: {
                int dial = number(0, 719);
                return due("dial", tower.dial(face, dial), model.dial(face, dial));
            }
            case 4:
                return due("bell", tower.bell(face), model.bell(face));
            case 5:
                return due("reset", tower.reset(), model.reset());
            default: {
                int minutes = number(1, 2000);
                return due("pass", tower.pass(minutes), model.pass(minutes));
            }
        }
    }

    private static int looks(int choice) {
        switch (choice) {
            case 0: {
                int setting = number(0, 2);
                return due("setting", tower.setting(setting), model.setting(setting));
            }
            case 1:
                return due("majority", tower.majority(), model.majority());
            case 2: {
                int place = number(0, 23);
                int part = number(0, 2);
                return due("coming", tower.coming(place, part), model.coming(place, part));
            }
            case 3: {
                int minutes = number(0, 2000);
                return due("spreadIn", tower.spreadIn(minutes), model.spreadIn(minutes));
            }
            case 4: {
                int spread = next(2) == 0 ? number(0, 360) : number(0, 40);
                return due("minutesTo", tower.minutesTo(spread), model.minutesTo(spread));
            }
            case 5:
                return due("bestOil", tower.bestOil(), model.bestOil());
            case 6: {
                int what = number(0, 8);
                return due("total", tower.total(what), model.total(what));
            }
            default: {
                int face = number(0, 3);
                int part = number(0, 7);
                return due("face", tower.face(face, part), model.face(face, part));
            }
        }
    }

    private static int others(int choice) {
        if (choice < 4) {
            return keepers(choice + 1);
        }
        if (choice < 6) {
            return states(next(3));
        }
        if (choice < 8) {
            return works();
        }
        return due("total", tower.total(choice), model.total(choice));
    }

    private static int keepers(int choice) {
        int minute = next(3) == 0 ? number(0, 1439) : 100 * next(12);
        switch (choice) {
            case 0:
            case 1: {
                int wrong = number(-30, 30);
                return due("hire", tower.hire(minute, wrong), model.hire(minute, wrong));
            }
            case 2:
                return due("dismiss", tower.dismiss(minute), model.dismiss(minute));
            case 3:
                return due("keeperTime", tower.keeperTime(), model.keeperTime());
            default: {
                int part = number(0, 2);
                return due("keeper", tower.keeper(minute, part), model.keeper(minute, part));
            }
        }
    }

    private static int states(int choice) {
        switch (choice) {
            case 0:
                return due("undo", tower.undo(), model.undo());
            case 1:
                return due("save", tower.save(), model.save());
            default:
                return due("restore", tower.restore(), model.restore());
        }
    }

    private static int works() {
        switch (next(6)) {
            case 0:
                return due("clearText", tower.clearText(), model.clearText());
            case 1:
                return due("errorPosition", tower.errorPosition(), model.errorPosition());
            case 2: {
                int code = next(3) == 0 ? number(33, 126) : SIGNS.charAt(next(SIGNS.length()));
                return due("append", tower.append(code), model.append(code));
            }
            case 3:
                return due("work", tower.work(), model.work());
            default:
                return appendWork();
        }
    }

    private static int appendWork() {
        StringBuilder work = new StringBuilder(next(4) == 0 ? "" : ";");
        if (model.errorPosition() == 0) {
            work.setLength(0);
        }
        switch (next(5)) {
            case 0:
                work.append('f').append(next(4)).append(clock());
                break;
            case 1:
                work.append('k').append(clock()).append(next(2) == 0 ? '+' : '-').append(next(31));
                break;
            case 2:
                work.append('w').append(1 + next(next(2) == 0 ? 30 : 2000));
                break;
            case 3:
                work.append('o').append(next(4));
                break;
            default:
                work.append('b').append(next(4));
                break;
        }
        if (next(20) == 0) {
            work.setCharAt(next(work.length()), SIGNS.charAt(next(SIGNS.length())));
        }
        for (char sign : work.toString().toCharArray()) {
            due("append", tower.append(sign), model.append(sign));
        }
        return work.length();
    }

    private static String clock() {
        return String.format("%02d:%02d", next(24), next(60));
    }

    /** Answers mostly a number of the range, often its ends, sometimes one outside. */
    private static int number(int least, int most) {
        switch (next(20)) {
            case 0:
                return FAR[next(FAR.length)];
            case 1:
                return next(2) == 0 ? least - 1 : most + 1;
            case 2:
                return next(2) == 0 ? least : most;
            default:
                return least + next(most - least + 1);
        }
    }

    private static int next(int bound) {
        row = row * 6364136223846793005L + 1442695040888963407L;
        return (int) ((row >>> 33) % bound);
    }

    private static int due(String call, int got, int want) {
        CHECK.due(call, want, got);
        return 1;
    }
}
