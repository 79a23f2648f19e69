import java.util.ArrayDeque;
import java.util.Deque;
import java.util.TreeMap;
import java.util.regex.Matcher;
import java.util.regex.Pattern;

/**
 * The document once more, written another way: a fresh copy for every state, a map
 * of keepers, and a regular expression for the texts. Slow and plain.
 */
final class Model {
    private static final int NO_SUCH = -1001;
    private static final int BAD_VALUE = -1002;
    private static final int NOT_POSSIBLE = -1003;
    private static final int LIMIT = -1004;
    private static final int BAD_TEXT = -1005;
    private static final int NONE = -1000;
    private static final String CLOCK = "(?:[01][0-9]|2[0-3]):[0-5][0-9]";
    private static final String WORK = "(?:f[0-3]" + CLOCK + "|k" + CLOCK + "[-+](?:30|[12][0-9]|[0-9])"
        + "|w(?:2000|1[0-9][0-9][0-9]|[1-9][0-9][0-9]|[1-9][0-9]|[1-9])|o[0-3]|b[0-3])";
    private static final Pattern TEXT = Pattern.compile(WORK + "(?:;" + WORK + ")*");

    private static final class State {
        int time;
        int[] settings = {3, 1, 600};
        int[] dials = new int[4];
        int[] teeth = {20, 30, 40, 50};
        int[] strains = new int[4];
        int[] wears = new int[4];
        int[] slips = new int[4];
        boolean[] bells = {true, false, false, false};
        int[] strikes = new int[4];
        int shaft;
        int shaftSlips;
        int sets;
        TreeMap<Integer, Integer> keepers = new TreeMap<>();

        State copy() {
            State other = new State();
            other.time = time;
            other.settings = settings.clone();
            other.dials = dials.clone();
            other.teeth = teeth.clone();
            other.strains = strains.clone();
            other.wears = wears.clone();
            other.slips = slips.clone();
            other.bells = bells.clone();
            other.strikes = strikes.clone();
            other.shaft = shaft;
            other.shaftSlips = shaftSlips;
            other.sets = sets;
            other.keepers = new TreeMap<>(keepers);
            return other;
        }

        int allStrikes() {
            return strikes[0] + strikes[1] + strikes[2] + strikes[3];
        }

        int keeperAt(int minute) {
            Integer start = keepers.floorKey(minute);
            return start == null ? keepers.lastKey() : start;
        }

        int keeperTime() {
            return ((time + keepers.get(keeperAt(time % 1440))) % 720 + 720) % 720;
        }

        int reset() {
            int due = keeperTime();
            int done = 0;
            for (int face = 0; face < 4; face++) {
                if (apart(dials[face], due) > settings[1]) {
                    dials[face] = due;
                    strains[face] = 0;
                    done++;
                }
            }
            sets += done;
            return done;
        }

        void minute() {
            time += 1;
            for (int face = 0; face < 4; face++) {
                strains[face] = strains[face] + settings[0] + wears[face];
                if (strains[face] >= 10 * teeth[face]) {
                    strains[face] -= 10 * teeth[face];
                    slips[face]++;
                    if (slips[face] % 3 == 0 && wears[face] < 9) {
                        wears[face]++;
                    }
                } else {
                    dials[face] = dials[face] == 719 ? 0 : dials[face] + 1;
                    if (bells[face] && dials[face] % 60 == 0) {
                        strikes[face] += dials[face] == 0 ? 12 : dials[face] / 60;
                    }
                }
            }
            shaft += settings[0] + wears[0] + wears[1] + wears[2] + wears[3];
            if (shaft >= settings[2]) {
                shaft = 0;
                shaftSlips++;
                for (int face = 0; face < 4; face++) {
                    dials[face] = (dials[face] + 719) % 720;
                }
            }
            if (time % 1440 == 720 && !keepers.isEmpty()) {
                reset();
            }
        }

        void oil(int face) {
            wears[face] = wears[face] == 0 ? 0 : wears[face] - 1;
            strains[face] = 0;
        }

        int spread() {
            int most = 0;
            for (int face = 0; face < 4; face++) {
                for (int other = 0; other < face; other++) {
                    most = Math.max(most, apart(dials[face], dials[other]));
                }
            }
            return most;
        }
    }

    private State now = new State();
    private State saved;
    private final Deque<State> recorded = new ArrayDeque<>();
    private String buffer = "";

    private static int apart(int dial, int other) {
        int on = (other - dial + 720) % 720;
        int back = (dial - other + 720) % 720;
        return on < back ? on : back;
    }

    private void record() {
        recorded.addLast(now.copy());
        if (recorded.size() > 5) {
            recorded.removeFirst();
        }
    }

    private static boolean isFace(int face) {
        return face >= 0 && face <= 3;
    }

    int set(int setting, int value) {
        int[] least = {1, 0, 100};
        int[] most = {9, 60, 5000};
        if (setting < 0 || setting > 2 || value < least[setting] || value > most[setting]) {
            return BAD_VALUE;
        }
        record();
        int previous = now.settings[setting];
        now.settings[setting] = value;
        return previous;
    }

    int setting(int setting) {
        return setting < 0 || setting > 2 ? BAD_VALUE : now.settings[setting];
    }

    int gear(int face, int teeth) {
        if (!isFace(face)) {
            return NO_SUCH;
        }
        if (teeth < 10 || teeth > 60) {
            return BAD_VALUE;
        }
        record();
        int previous = now.teeth[face];
        now.teeth[face] = teeth;
        now.strains[face] = 0;
        return previous;
    }

    int oil(int face) {
        if (!isFace(face)) {
            return NO_SUCH;
        }
        record();
        now.oil(face);
        return now.wears[face];
    }

    int dial(int face, int dial) {
        if (!isFace(face)) {
            return NO_SUCH;
        }
        if (dial < 0 || dial > 719) {
            return BAD_VALUE;
        }
        record();
        int previous = now.dials[face];
        now.dials[face] = dial;
        return apart(previous, dial);
    }

    int bell(int face) {
        if (!isFace(face)) {
            return NO_SUCH;
        }
        record();
        now.bells[face] ^= true;
        return now.bells[face] ? 1 : 0;
    }

    int pass(int minutes) {
        if (minutes < 1 || minutes > 2000) {
            return BAD_VALUE;
        }
        if (now.time + minutes > 999999) {
            return LIMIT;
        }
        record();
        int ahead = now.allStrikes();
        for (int minute = 0; minute < minutes; minute++) {
            now.minute();
        }
        return now.allStrikes() - ahead;
    }

    int hire(int start, int wrong) {
        if (start < 0 || start > 1439 || wrong < -30 || wrong > 30) {
            return BAD_VALUE;
        }
        if (now.keepers.containsKey(start)) {
            return NOT_POSSIBLE;
        }
        if (now.keepers.size() == 6) {
            return LIMIT;
        }
        record();
        now.keepers.put(start, wrong);
        return now.keepers.size();
    }

    int dismiss(int start) {
        if (!now.keepers.containsKey(start)) {
            return NO_SUCH;
        }
        record();
        return now.keepers.remove(start);
    }

    int reset() {
        if (now.keepers.isEmpty()) {
            return NOT_POSSIBLE;
        }
        record();
        return now.reset();
    }

    int keeper(int minute, int part) {
        if (minute < 0 || minute > 1439 || part < 0 || part > 2) {
            return BAD_VALUE;
        }
        if (now.keepers.isEmpty()) {
            return NONE;
        }
        int start = now.keeperAt(minute);
        if (part == 0) {
            return start;
        }
        if (part == 1) {
            return now.keepers.get(start);
        }
        int minutes = 1;
        while (minutes < 1440 && now.keeperAt((minute + minutes) % 1440) == start) {
            minutes++;
        }
        return minutes;
    }

    int keeperTime() {
        return now.keepers.isEmpty() ? NONE : now.keeperTime();
    }

    int face(int face, int part) {
        if (!isFace(face)) {
            return NO_SUCH;
        }
        if (part < 0 || part > 7) {
            return BAD_VALUE;
        }
        int[] parts = {now.dials[face], now.teeth[face], now.strains[face], now.wears[face], now.slips[face],
            now.bells[face] ? 1 : 0, now.strikes[face], apart(now.dials[face], now.time % 720)};
        return parts[part];
    }

    int total(int what) {
        if (what < 0 || what > 8) {
            return BAD_VALUE;
        }
        int slips = now.slips[0] + now.slips[1] + now.slips[2] + now.slips[3];
        int[] totals = {now.time, now.time % 1440, now.shaft, now.shaftSlips, slips, now.allStrikes(), now.sets,
            now.keepers.size(), now.spread()};
        return totals[what];
    }

    int majority() {
        int[] counts = new int[720];
        for (int dial : now.dials) {
            counts[dial]++;
        }
        for (int most = 4; most > 0; most--) {
            for (int dial : now.dials) {
                if (counts[dial] == most) {
                    return dial;
                }
            }
        }
        throw new IllegalStateException();
    }

    int coming(int place, int part) {
        if (place < 0 || place > 23 || part < 0 || part > 2) {
            return BAD_VALUE;
        }
        int left = place;
        for (int minutes = 1; minutes <= 24 * 60; minutes++) {
            for (int face = 0; face < 4; face++) {
                int dial = (now.dials[face] + minutes) % 720;
                if (now.bells[face] && dial % 60 == 0 && left-- == 0) {
                    return part == 0 ? face : part == 1 ? minutes : dial == 0 ? 12 : dial / 60;
                }
            }
        }
        return NONE;
    }

    int spreadIn(int minutes) {
        if (minutes < 0 || minutes > 2000) {
            return BAD_VALUE;
        }
        State then = now.copy();
        for (int minute = 0; minute < minutes; minute++) {
            then.minute();
        }
        return then.spread();
    }

    int minutesTo(int spread) {
        if (spread < 0 || spread > 360) {
            return BAD_VALUE;
        }
        State then = now.copy();
        int minutes = 0;
        while (then.spread() < spread) {
            if (minutes == 3000) {
                return NONE;
            }
            then.minute();
            minutes++;
        }
        return minutes;
    }

    int bestOil() {
        int[] sums = new int[4];
        int best = 0;
        for (int face = 0; face < 4; face++) {
            State then = now.copy();
            then.oil(face);
            for (int minute = 0; minute < 1440; minute++) {
                then.minute();
            }
            for (int dial : then.dials) {
                sums[face] += apart(dial, then.time % 720);
            }
            best = sums[face] < sums[best] ? face : best;
        }
        return best;
    }

    int append(int code) {
        if (code < 33 || code > 126) {
            return BAD_VALUE;
        }
        if (buffer.length() == 60) {
            return LIMIT;
        }
        buffer += (char) code;
        return buffer.length();
    }

    int clearText() {
        int length = buffer.length();
        buffer = "";
        return length;
    }

    int errorPosition() {
        for (int length = 1; length <= buffer.length(); length++) {
            Matcher matcher = TEXT.matcher(buffer.substring(0, length));
            if (!matcher.matches() && !matcher.hitEnd()) {
                return length - 1;
            }
        }
        return TEXT.matcher(buffer).matches() ? NONE : buffer.length();
    }

    int work() {
        if (!TEXT.matcher(buffer).matches()) {
            return BAD_TEXT;
        }
        State ahead = now.copy();
        Deque<State> recordedAhead = new ArrayDeque<>(recorded);
        int done = 0;
        for (String work : buffer.split(";")) {
            int answer = doWork(work);
            if (answer <= NO_SUCH) {
                break;
            }
            done++;
        }
        recorded.clear();
        recorded.addAll(recordedAhead);
        State then = now;
        now = ahead;
        record();
        now = then;
        buffer = "";
        return done;
    }

    private int doWork(String work) {
        switch (work.charAt(0)) {
            case 'f':
                return dial(work.charAt(1) - '0', clock(work.substring(2)) % 720);
            case 'k':
                return hire(clock(work.substring(1, 6)), Integer.parseInt(work.substring(6)));
            case 'w':
                return pass(Integer.parseInt(work.substring(1)));
            case 'o':
                return oil(work.charAt(1) - '0');
            default:
                return bell(work.charAt(1) - '0');
        }
    }

    private static int clock(String clock) {
        String[] parts = clock.split(":");
        return 60 * Integer.parseInt(parts[0]) + Integer.parseInt(parts[1]);
    }

    int undo() {
        if (recorded.isEmpty()) {
            return NOT_POSSIBLE;
        }
        now = recorded.removeLast();
        return recorded.size();
    }

    int save() {
        saved = now.copy();
        return now.time;
    }

    int restore() {
        if (saved == null) {
            return NOT_POSSIBLE;
        }
        record();
        now = saved.copy();
        return now.time;
    }
}
