/**
 * A clock tower with four faces that are driven by one shaft.
 *
 * Every row that a call needs is made with the object and used again, so that
 * no call makes an object: all calls of a run share one small room.
 */
public final class TowerFaces {
    public static final int NO_SUCH = -1001;
    public static final int BAD_VALUE = -1002;
    public static final int NOT_POSSIBLE = -1003;
    public static final int LIMIT = -1004;
    public static final int BAD_TEXT = -1005;
    public static final int NONE = -1000;

    private static final int NO_ERROR = 0;

    private static final int FACES = 4;
    private static final int DIAL_MINUTES = 720;
    private static final int HOUR = 60;
    private static final int DAY = 1440;
    private static final int NOON = 720;
    private static final int LAST_TIME = 999999;

    private static final int LEAST_TEETH = 10;
    private static final int MOST_TEETH = 60;
    private static final int STRAIN_PER_TOOTH = 10;
    private static final int SLIPS_PER_WEAR = 3;
    private static final int MOST_WEAR = 9;

    private static final int SETTINGS = 3;
    private static final int LOAD = 0;
    private static final int TOLERANCE = 1;
    private static final int GRIP = 2;
    private static final int[] LEAST_SETTING = {1, 0, 100};
    private static final int[] MOST_SETTING = {9, 60, 5000};
    private static final int[] FIRST_SETTING = {3, 1, 600};

    private static final int MOST_KEEPERS = 6;
    private static final int MOST_WRONG = 30;

    private static final int MOST_PASS = 2000;
    private static final int MOST_PREDICTED = 2000;
    private static final int MOST_SEARCHED = 3000;
    private static final int MOST_DISTANCE = 360;
    private static final int COMING_PLACES = 24;
    private static final int OIL_OUTLOOK = 1440;

    private static final int MOST_SIGNS = 60;
    private static final int FIRST_SIGN = 33;
    private static final int LAST_SIGN = 126;
    private static final int MOST_DIGITS = 4;

    private static final int MOST_RECORDED = 5;

    private final Tower tower;
    private final Tower trial;
    private final Tower saved;
    private boolean isSaved;
    private final History history;
    private final WorkText text;

    public TowerFaces() {
        tower = new Tower();
        trial = new Tower();
        saved = new Tower();
        history = new History();
        text = new WorkText();
    }

    // ---- the tower

    public int set(int setting, int value) {
        if (!isSetting(setting)) {
            return BAD_VALUE;
        }
        if (!isWithin(value, LEAST_SETTING[setting], MOST_SETTING[setting])) {
            return BAD_VALUE;
        }
        history.record(tower);
        int previous = tower.settings[setting];
        tower.settings[setting] = value;
        return previous;
    }

    public int setting(int setting) {
        return isSetting(setting) ? tower.settings[setting] : BAD_VALUE;
    }

    public int gear(int face, int teeth) {
        Face chosen = tower.faceAt(face);
        if (chosen == null) {
            return NO_SUCH;
        }
        if (!isWithin(teeth, LEAST_TEETH, MOST_TEETH)) {
            return BAD_VALUE;
        }
        history.record(tower);
        int previous = chosen.teeth;
        chosen.teeth = teeth;
        chosen.strain = 0;
        return previous;
    }

    public int oil(int face) {
        Face chosen = tower.faceAt(face);
        if (chosen == null) {
            return NO_SUCH;
        }
        history.record(tower);
        chosen.takeOil();
        return chosen.wear;
    }

    public int dial(int face, int dial) {
        Face chosen = tower.faceAt(face);
        if (chosen == null) {
            return NO_SUCH;
        }
        if (!isWithin(dial, 0, DIAL_MINUTES - 1)) {
            return BAD_VALUE;
        }
        history.record(tower);
        int previous = chosen.dial;
        chosen.dial = dial;
        return distance(previous, dial);
    }

    public int bell(int face) {
        Face chosen = tower.faceAt(face);
        if (chosen == null) {
            return NO_SUCH;
        }
        history.record(tower);
        chosen.hasBell = !chosen.hasBell;
        return chosen.hasBell ? 1 : 0;
    }

    public int pass(int minutes) {
        int error = tower.errorOfPassing(minutes);
        if (error != NO_ERROR) {
            return error;
        }
        history.record(tower);
        return tower.passMinutes(minutes);
    }

    // ---- keepers

    public int hire(int start, int wrong) {
        int error = tower.keepers.errorOfAdding(start, wrong);
        if (error != NO_ERROR) {
            return error;
        }
        history.record(tower);
        tower.keepers.add(start, wrong);
        return tower.keepers.count;
    }

    public int dismiss(int start) {
        if (!tower.keepers.hasStart(start)) {
            return NO_SUCH;
        }
        history.record(tower);
        return tower.keepers.remove(start);
    }

    public int reset() {
        if (tower.keepers.count == 0) {
            return NOT_POSSIBLE;
        }
        history.record(tower);
        return tower.resetFaces();
    }

    public int keeper(int minute, int part) {
        if (!isWithin(minute, 0, DAY - 1) || !isWithin(part, 0, 2)) {
            return BAD_VALUE;
        }
        int place = tower.keepers.placeAt(minute);
        if (place < 0) {
            return NONE;
        }
        switch (part) {
            case 0:
                return tower.keepers.starts[place];
            case 1:
                return tower.keepers.wrongs[place];
            default:
                return tower.keepers.minutesToNext(minute);
        }
    }

    public int keeperTime() {
        return tower.timeOfKeeper();
    }

    // ---- what there is

    public int face(int face, int part) {
        Face chosen = tower.faceAt(face);
        if (chosen == null) {
            return NO_SUCH;
        }
        switch (part) {
            case 0:
                return chosen.dial;
            case 1:
                return chosen.teeth;
            case 2:
                return chosen.strain;
            case 3:
                return chosen.wear;
            case 4:
                return chosen.slips;
            case 5:
                return chosen.hasBell ? 1 : 0;
            case 6:
                return chosen.strikes;
            case 7:
                return distance(chosen.dial, tower.time % DIAL_MINUTES);
            default:
                return BAD_VALUE;
        }
    }

    public int total(int what) {
        switch (what) {
            case 0:
                return tower.time;
            case 1:
                return tower.minuteOfDay();
            case 2:
                return tower.shaftStrain;
            case 3:
                return tower.shaftSlips;
            case 4:
                return tower.slipsOfGears();
            case 5:
                return tower.strikesOfBells();
            case 6:
                return tower.facesSet;
            case 7:
                return tower.keepers.count;
            case 8:
                return tower.spread();
            default:
                return BAD_VALUE;
        }
    }

    public int majority() {
        int best = 0;
        int most = 0;
        for (Face face : tower.faces) {
            int same = tower.facesWithDial(face.dial);
            if (same > most) {
                most = same;
                best = face.dial;
            }
        }
        return best;
    }

    public int coming(int place, int part) {
        if (!isWithin(place, 0, COMING_PLACES - 1) || !isWithin(part, 0, 2)) {
            return BAD_VALUE;
        }
        int bells = tower.bells();
        if (bells == 0) {
            return NONE;
        }
        // Without slips and resets each bell strikes once in every 60 minutes,
        // so the order of the first round is the order of all rounds.
        int number = tower.faceOfBellInRound(place % bells);
        Face striking = tower.faceAt(number);
        if (striking == null) {
            return NONE;
        }
        int minutes = striking.minutesToHour() + HOUR * (place / bells);
        switch (part) {
            case 0:
                return number;
            case 1:
                return minutes;
            default:
                return strikesAt((striking.dial + minutes) % DIAL_MINUTES);
        }
    }

    // ---- predictions; they change nothing

    public int spreadIn(int minutes) {
        if (!isWithin(minutes, 0, MOST_PREDICTED)) {
            return BAD_VALUE;
        }
        trial.copyFrom(tower);
        trial.passMinutes(minutes);
        return trial.spread();
    }

    public int minutesTo(int spread) {
        if (!isWithin(spread, 0, MOST_DISTANCE)) {
            return BAD_VALUE;
        }
        trial.copyFrom(tower);
        for (int minutes = 0; minutes <= MOST_SEARCHED; minutes++) {
            if (trial.spread() >= spread) {
                return minutes;
            }
            trial.passMinute();
        }
        return NONE;
    }

    public int bestOil() {
        int best = 0;
        int least = FACES * MOST_DISTANCE + 1;
        for (int number = 0; number < FACES; number++) {
            int error = errorAfterOil(number);
            if (error < least) {
                least = error;
                best = number;
            }
        }
        return best;
    }

    private int errorAfterOil(int number) {
        trial.copyFrom(tower);
        Face oiled = trial.faceAt(number);
        if (oiled != null) {
            oiled.takeOil();
        }
        trial.passMinutes(OIL_OUTLOOK);
        return trial.distancesFromTime();
    }

    // ---- texts

    public int append(int code) {
        if (!isWithin(code, FIRST_SIGN, LAST_SIGN)) {
            return BAD_VALUE;
        }
        if (text.length >= MOST_SIGNS) {
            return LIMIT;
        }
        text.add((char) code);
        return text.length;
    }

    public int clearText() {
        int previous = text.length;
        text.length = 0;
        return previous;
    }

    public int errorPosition() {
        return text.firstError();
    }

    public int work() {
        if (text.firstError() != NONE) {
            return BAD_TEXT;
        }
        history.record(tower);
        text.goToStart();
        int done = 0;
        while (done < MOST_SIGNS && text.readWork() && doWork()) {
            done++;
            text.readSign(';');
        }
        text.length = 0;
        return done;
    }

    /** Does the work that was read last; answers false if its method would fail. */
    private boolean doWork() {
        switch (text.kind) {
            case 'k':
                if (tower.keepers.errorOfAdding(text.clock, text.number) != NO_ERROR) {
                    return false;
                }
                tower.keepers.add(text.clock, text.number);
                return true;
            case 'w':
                if (tower.errorOfPassing(text.number) != NO_ERROR) {
                    return false;
                }
                tower.passMinutes(text.number);
                return true;
            default:
                return workOnFace(tower.faceAt(text.face));
        }
    }

    private boolean workOnFace(Face chosen) {
        if (chosen == null) {
            return false;
        }
        switch (text.kind) {
            case 'f':
                chosen.dial = text.clock % DIAL_MINUTES;
                return true;
            case 'o':
                chosen.takeOil();
                return true;
            case 'b':
                chosen.hasBell = !chosen.hasBell;
                return true;
            default:
                return false;
        }
    }

    // ---- undo, saved state

    public int undo() {
        if (history.count == 0) {
            return NOT_POSSIBLE;
        }
        history.takeBack(tower);
        return history.count;
    }

    public int save() {
        saved.copyFrom(tower);
        isSaved = true;
        return tower.time;
    }

    public int restore() {
        if (!isSaved) {
            return NOT_POSSIBLE;
        }
        history.record(tower);
        tower.copyFrom(saved);
        return tower.time;
    }

    // ---- what the classes below share

    private static boolean isWithin(int value, int least, int most) {
        return value >= least && value <= most;
    }

    private static boolean isSetting(int setting) {
        return isWithin(setting, 0, SETTINGS - 1);
    }

    private static int distance(int dial, int other) {
        int way = Math.abs(dial - other);
        return Math.min(way, DIAL_MINUTES - way);
    }

    private static int strikesAt(int dial) {
        return dial < HOUR ? 12 : dial / HOUR;
    }

    private static final class Face {
        int dial;
        int teeth;
        int strain;
        int wear;
        int slips;
        boolean hasBell;
        int strikes;

        Face(int number) {
            teeth = 20 + 10 * number;
            hasBell = number == 0;
        }

        void copyFrom(Face other) {
            dial = other.dial;
            teeth = other.teeth;
            strain = other.strain;
            wear = other.wear;
            slips = other.slips;
            hasBell = other.hasBell;
            strikes = other.strikes;
        }

        void takeOil() {
            wear = Math.max(wear - 1, 0);
            strain = 0;
        }

        int minutesToHour() {
            return HOUR - dial % HOUR;
        }

        /** Answers how often the bell strikes in this minute. */
        int passMinute(int load) {
            strain += load + wear;
            if (strain >= STRAIN_PER_TOOTH * teeth) {
                slip();
                return 0;
            }
            dial = (dial + 1) % DIAL_MINUTES;
            if (!hasBell || dial % HOUR != 0) {
                return 0;
            }
            int now = strikesAt(dial);
            strikes += now;
            return now;
        }

        private void slip() {
            strain -= STRAIN_PER_TOOTH * teeth;
            slips++;
            if (slips % SLIPS_PER_WEAR == 0) {
                wear = Math.min(wear + 1, MOST_WEAR);
            }
        }

        void goBack() {
            dial = dial == 0 ? DIAL_MINUTES - 1 : dial - 1;
        }
    }

    /** The keepers, in the order of their starts. */
    private static final class Keepers {
        final int[] starts = new int[MOST_KEEPERS];
        final int[] wrongs = new int[MOST_KEEPERS];
        int count;

        void copyFrom(Keepers other) {
            System.arraycopy(other.starts, 0, starts, 0, MOST_KEEPERS);
            System.arraycopy(other.wrongs, 0, wrongs, 0, MOST_KEEPERS);
            count = other.count;
        }

        boolean hasStart(int start) {
            for (int place = 0; place < count; place++) {
                if (starts[place] == start) {
                    return true;
                }
            }
            return false;
        }

        int errorOfAdding(int start, int wrong) {
            if (!isWithin(start, 0, DAY - 1) || !isWithin(wrong, -MOST_WRONG, MOST_WRONG)) {
                return BAD_VALUE;
            }
            if (hasStart(start)) {
                return NOT_POSSIBLE;
            }
            return count >= MOST_KEEPERS ? LIMIT : NO_ERROR;
        }

        void add(int start, int wrong) {
            if (count >= MOST_KEEPERS) {
                return;
            }
            int place = count;
            while (place > 0 && starts[place - 1] > start) {
                starts[place] = starts[place - 1];
                wrongs[place] = wrongs[place - 1];
                place--;
            }
            starts[place] = start;
            wrongs[place] = wrong;
            count++;
        }

        /** Answers by how many minutes the watch of the removed keeper was wrong. */
        int remove(int start) {
            int wrong = 0;
            int kept = 0;
            for (int place = 0; place < count; place++) {
                if (starts[place] == start) {
                    wrong = wrongs[place];
                } else {
                    starts[kept] = starts[place];
                    wrongs[kept] = wrongs[place];
                    kept++;
                }
            }
            count = kept;
            return wrong;
        }

        /** Answers the place of the keeper on watch, -1 without keepers. */
        int placeAt(int minute) {
            // Ahead of the first start the watch of the day before goes on.
            int found = count - 1;
            for (int place = 0; place < count; place++) {
                if (starts[place] <= minute) {
                    found = place;
                }
            }
            return found;
        }

        int minutesToNext(int minute) {
            if (count < 2) {
                return DAY;
            }
            int next = (placeAt(minute) + 1) % count;
            return Math.floorMod(starts[next] - minute, DAY);
        }
    }

    /** All that undo() and restore() bring back. */
    private static final class Tower {
        final Face[] faces = new Face[FACES];
        final Keepers keepers = new Keepers();
        final int[] settings = new int[SETTINGS];
        int time;
        int shaftStrain;
        int shaftSlips;
        int facesSet;

        Tower() {
            for (int number = 0; number < FACES; number++) {
                faces[number] = new Face(number);
            }
            System.arraycopy(FIRST_SETTING, 0, settings, 0, SETTINGS);
        }

        void copyFrom(Tower other) {
            for (int number = 0; number < FACES; number++) {
                faces[number].copyFrom(other.faces[number]);
            }
            keepers.copyFrom(other.keepers);
            System.arraycopy(other.settings, 0, settings, 0, SETTINGS);
            time = other.time;
            shaftStrain = other.shaftStrain;
            shaftSlips = other.shaftSlips;
            facesSet = other.facesSet;
        }

        /** Answers null if there is no such face. */
        Face faceAt(int number) {
            return isWithin(number, 0, FACES - 1) ? faces[number] : null;
        }

        int minuteOfDay() {
            return time % DAY;
        }

        int errorOfPassing(int minutes) {
            if (!isWithin(minutes, 1, MOST_PASS)) {
                return BAD_VALUE;
            }
            return time + minutes > LAST_TIME ? LIMIT : NO_ERROR;
        }

        /** Answers how often all bells strike in these minutes. */
        int passMinutes(int minutes) {
            int strikes = 0;
            for (int minute = 0; minute < minutes; minute++) {
                strikes += passMinute();
            }
            return strikes;
        }

        int passMinute() {
            time++;
            int strikes = 0;
            for (Face face : faces) {
                strikes += face.passMinute(settings[LOAD]);
            }
            strainShaft();
            if (minuteOfDay() == NOON) {
                resetFaces();
            }
            return strikes;
        }

        private void strainShaft() {
            shaftStrain += settings[LOAD];
            for (Face face : faces) {
                shaftStrain += face.wear;
            }
            if (shaftStrain < settings[GRIP]) {
                return;
            }
            shaftStrain = 0;
            shaftSlips++;
            for (Face face : faces) {
                face.goBack();
            }
        }

        /** Answers NONE without keepers. */
        int timeOfKeeper() {
            int place = keepers.placeAt(minuteOfDay());
            if (place < 0) {
                return NONE;
            }
            return Math.floorMod(time + keepers.wrongs[place], DIAL_MINUTES);
        }

        /** Answers how many faces the keeper on watch has set. */
        int resetFaces() {
            int due = timeOfKeeper();
            if (due == NONE) {
                return 0;
            }
            int set = 0;
            for (Face face : faces) {
                if (distance(face.dial, due) > settings[TOLERANCE]) {
                    face.dial = due;
                    face.strain = 0;
                    set++;
                }
            }
            facesSet += set;
            return set;
        }

        int slipsOfGears() {
            int sum = 0;
            for (Face face : faces) {
                sum += face.slips;
            }
            return sum;
        }

        int strikesOfBells() {
            int sum = 0;
            for (Face face : faces) {
                sum += face.strikes;
            }
            return sum;
        }

        int spread() {
            int greatest = 0;
            for (Face face : faces) {
                for (Face other : faces) {
                    greatest = Math.max(greatest, distance(face.dial, other.dial));
                }
            }
            return greatest;
        }

        int distancesFromTime() {
            int sum = 0;
            for (Face face : faces) {
                sum += distance(face.dial, time % DIAL_MINUTES);
            }
            return sum;
        }

        int facesWithDial(int dial) {
            int same = 0;
            for (Face face : faces) {
                if (face.dial == dial) {
                    same++;
                }
            }
            return same;
        }

        int bells() {
            int sum = 0;
            for (Face face : faces) {
                if (face.hasBell) {
                    sum++;
                }
            }
            return sum;
        }

        /** Answers which face's bell strikes at a place of the next 60 minutes, -1 if none does. */
        int faceOfBellInRound(int place) {
            int seen = 0;
            for (int minutes = 1; minutes <= HOUR; minutes++) {
                for (int number = 0; number < FACES; number++) {
                    Face face = faces[number];
                    if (face.hasBell && face.minutesToHour() == minutes) {
                        if (seen == place) {
                            return number;
                        }
                        seen++;
                    }
                }
            }
            return -1;
        }
    }

    /** The recorded states, in a ring: the latest one takes the place of the oldest one. */
    private static final class History {
        final Tower[] states = new Tower[MOST_RECORDED];
        int latest;
        int count;

        History() {
            for (int place = 0; place < MOST_RECORDED; place++) {
                states[place] = new Tower();
            }
        }

        void record(Tower tower) {
            latest = (latest + 1) % MOST_RECORDED;
            states[latest].copyFrom(tower);
            count = Math.min(count + 1, MOST_RECORDED);
        }

        void takeBack(Tower tower) {
            tower.copyFrom(states[latest]);
            latest = (latest + MOST_RECORDED - 1) % MOST_RECORDED;
            count--;
        }
    }

    /**
     * The buffer, and a reader of its works.
     *
     * What can be begun at a place can always be ended, so a reader that goes
     * on only behind a fitting sign stands at the first error when it fails.
     */
    private static final class WorkText {
        final char[] signs = new char[MOST_SIGNS];
        int length;
        int place;
        int kind;
        int face;
        int clock;
        int number;

        void add(char sign) {
            if (length < MOST_SIGNS) {
                signs[length] = sign;
                length++;
            }
        }

        void goToStart() {
            place = 0;
        }

        /** Answers where the first error is, NONE if the buffer is a text. */
        int firstError() {
            goToStart();
            for (int works = 0; works < length; works++) {
                if (!readWork()) {
                    return place;
                }
                if (place == length) {
                    return NONE;
                }
                if (!readSign(';')) {
                    return place;
                }
            }
            return place;
        }

        boolean readWork() {
            if (place >= length) {
                return false;
            }
            kind = signs[place];
            switch (kind) {
                case 'f':
                    place++;
                    return readFace() && readClock();
                case 'k':
                    place++;
                    return readClock() && readWrong();
                case 'w':
                    place++;
                    return readNumber(1, MOST_PASS);
                case 'o':
                case 'b':
                    place++;
                    return readFace();
                default:
                    return false;
            }
        }

        boolean readSign(char sign) {
            if (place >= length || signs[place] != sign) {
                return false;
            }
            place++;
            return true;
        }

        /** Answers -1 if no digit from least to most is next. */
        private int readDigit(int least, int most) {
            if (place >= length || !isWithin(signs[place] - '0', least, most)) {
                return -1;
            }
            int digit = signs[place] - '0';
            place++;
            return digit;
        }

        private boolean readFace() {
            face = readDigit(0, FACES - 1);
            return face >= 0;
        }

        private boolean readClock() {
            int tensOfHours = readDigit(0, 2);
            if (tensOfHours < 0) {
                return false;
            }
            int hours = readDigit(0, tensOfHours == 2 ? 3 : 9);
            if (hours < 0 || !readSign(':')) {
                return false;
            }
            int tensOfMinutes = readDigit(0, 5);
            if (tensOfMinutes < 0) {
                return false;
            }
            int minutes = readDigit(0, 9);
            if (minutes < 0) {
                return false;
            }
            clock = HOUR * (10 * tensOfHours + hours) + 10 * tensOfMinutes + minutes;
            return true;
        }

        private boolean readWrong() {
            boolean isSlow = readSign('-');
            if (!isSlow && !readSign('+')) {
                return false;
            }
            if (!readNumber(0, MOST_WRONG)) {
                return false;
            }
            number = isSlow ? -number : number;
            return true;
        }

        private boolean readNumber(int least, int most) {
            number = readDigit(least, 9);
            if (number < 0) {
                return false;
            }
            // A digit behind a 0, or one that makes the number too great, stays
            // unread: whoever reads on finds the error there.
            for (int digits = 1; digits < MOST_DIGITS && number > 0; digits++) {
                int digit = readDigit(0, Math.min(9, most - 10 * number));
                if (digit < 0) {
                    return true;
                }
                number = 10 * number + digit;
            }
            return true;
        }
    }
}
