/**
 * A town without clocks, told as a text: what is in a child's palm tells the hour there.
 * The document ../shared/DOC.md says what each call answers.
 */
public final class PalmHours {
    /** None; refused. */
    public static final int NONE = -1;

    private static final int MOST_BYTES = 1600;
    private static final int MOST_STATEMENTS = 80;
    private static final int MOST_THINGS = 6;
    private static final int MOST_CORNERS = 5;
    private static final int MOST_ROADS = 10;
    private static final int MOST_DOINGS = 6;
    private static final int MOST_OPEN = 7;
    private static final int MOST_LETTERS = 6;
    private static final int MOST_DIGITS = 4;
    private static final int LAST_MINUTE = 9999;
    private static final int LONGEST_HELD = 999;
    private static final int LAST_HOUR = 23;
    private static final int MOST_AHEAD = 60;
    private static final int MOST_SEEN_AHEAD = 40;
    private static final int MOST_SEEN = 16;
    private static final int MOST_PLANNED = 20;
    private static final int MOST_AT_ONCE = 100;
    private static final int MOST_ACTS = 20;
    private static final int HUNDRED = 100;
    private static final int NO_THING_BYTE = 255;
    private static final int IMAGE_BYTES = 3 + 3 * MOST_CORNERS + MOST_DOINGS;

    private static final int TAPE_CALLS = 0;
    private static final int TOWN_CALLS = 1;
    private static final int MINUTE_CALLS = 2;
    private static final int PALM_CALLS = 3;
    private static final int UNDO_CALLS = 4;
    private static final int OTHER_CALLS = 5;
    private static final int KINDS_OF_CALLS = 6;

    private final Tape tape = new Tape();
    // The text is read into the draft, so that a FAULT leaves the told TOWN as it is.
    private Town told = new Town();
    private Town draft = new Town();
    private final Reader reader = new Reader(tape, draft);
    private final Palm palm = new Palm(told);
    private final State state = new State(told);
    private final Past past = new Past();
    private final Walks walks = new Walks();
    private final Seen seen = new Seen();
    private final int[] hours = new int[MOST_AHEAD + 1];
    private final int[] otherHours = new int[MOST_AHEAD + 1];
    private final int[] planned = new int[MOST_CORNERS];
    private final int[] imageBytes = new int[IMAGE_BYTES];
    private final int[] refused = new int[KINDS_OF_CALLS];
    private int imageLength = 0;
    private int faultKind = 0;
    private int faultPlace = NONE;
    private int drawn = 1;

    public PalmHours() {
        begin();
    }

    // ---- the tape, the town

    public int feed(int a, int b, int c, int d, int e) {
        if (!tape.hasRoomFor(20)) {
            return refuse(TAPE_CALLS);
        }
        tape.addNumber(a);
        tape.addNumber(b);
        tape.addNumber(c);
        tape.addNumber(d);
        tape.addNumber(e);
        return tape.length;
    }

    public boolean end(int n) {
        if (n < 0 || n > tape.length) {
            refuse(TAPE_CALLS);
            return false;
        }
        tape.length = n;
        return true;
    }

    public int town() {
        boolean faultless = reader.read(draft);
        tape.length = 0;
        faultKind = reader.tokens.fault;
        faultPlace = reader.tokens.faultPlace;
        if (!faultless) {
            return refuse(TOWN_CALLS);
        }
        Town former = told;
        told = draft;
        draft = former;
        begin();
        return told.statements;
    }

    public int fault(int what) {
        switch (what) {
            case 0: return faultKind;
            case 1: return faultPlace;
            default: return NONE;
        }
    }

    public int has(int what) {
        switch (what) {
            case 0: return told.things;
            case 1: return told.corners;
            case 2: return told.roads;
            case 3: return told.doings;
            case 4: return state.minute;
            case 5: return state.countDone();
            case 6: return state.countEmpty();
            case 7: return state.keptCount;
            case 8: return seen.count;
            case 9: return past.count;
            case 10: return drawn;
            default: return NONE;
        }
    }

    public int letter(int kind, int which, int k) {
        if (k < 0 || k >= MOST_LETTERS) {
            return NONE;
        }
        switch (kind) {
            case 0: return told.isThing(which) ? Tokens.letterOf(told.thingNames[which], k) : NONE;
            case 1: return told.isCorner(which) ? Tokens.letterOf(told.cornerNames[which], k) : NONE;
            case 2: return told.isDoing(which) ? Tokens.letterOf(told.doingNames[which], k) : NONE;
            default: return NONE;
        }
    }

    public int thing(int thing, int what) {
        if (!told.isThing(thing)) {
            return NONE;
        }
        switch (what) {
            case 0: return told.weighs[thing];
            case 1: return told.lasts[thing];
            default: return NONE;
        }
    }

    public int corner(int corner, int what) {
        if (!told.isCorner(corner)) {
            return NONE;
        }
        switch (what) {
            case 0: return state.things[corner];
            case 1: return state.held[corner];
            case 2: return hourAt(corner);
            default: return NONE;
        }
    }

    public int doing(int doing, int what) {
        if (!told.isDoing(doing)) {
            return NONE;
        }
        switch (what) {
            case 0: return told.doingCorners[doing];
            case 1: return told.doingHours[doing];
            case 2: return state.done[doing];
            default: return NONE;
        }
    }

    // ---- hours ahead

    public int later(int corner, int n) {
        if (!told.isCorner(corner) || n < 0 || n > MOST_AHEAD || isBeyond(n)) {
            return NONE;
        }
        foresee(corner, hours, n);
        return hours[n];
    }

    public int when(int doing) {
        if (!told.isDoing(doing)) {
            return NONE;
        }
        if (state.done[doing] == 1) {
            return 0;
        }
        int last = foresee(told.doingCorners[doing], hours, MOST_AHEAD);
        // Not from 0 on: behind on() a DOING may be open though its hour is told now.
        for (int k = 1; k <= last; k++) {
            if (hours[k] == told.doingHours[doing]) {
                return k;
            }
        }
        return NONE;
    }

    public int alike(int one, int other) {
        if (!told.isCorner(one) || !told.isCorner(other) || one == other) {
            return NONE;
        }
        int last = foresee(one, hours, MOST_AHEAD);
        foresee(other, otherHours, MOST_AHEAD);
        for (int k = 0; k <= last; k++) {
            if (hours[k] == otherHours[k]) {
                return k;
            }
        }
        return NONE;
    }

    // ---- givings

    public int plan(int doings, int n, int corner) {
        if (doings < 0 || doings >= 1 << told.doings || n < 0 || n > MOST_PLANNED || isBeyond(n)) {
            return NONE;
        }
        if (corner != NONE && !told.isCorner(corner)) {
            return NONE;
        }
        boolean isPlan = planNothing(doings, n)
            || planNeeded(doings, n) && (countPlanned() > 0 || planAnywhere(doings, n));
        if (!isPlan) {
            return NONE;
        }
        return corner == NONE ? countPlanned() : planned[corner];
    }

    public int evening(int corner, int what) {
        if (!told.isCorner(corner) || told.things == 0 || what < 0 || what > 1) {
            return NONE;
        }
        int best = 0;
        int longest = NONE;
        for (int thing = 0; thing < told.things; thing++) {
            int stays = countStaying(corner, thing);
            if (stays > longest) {
                best = thing;
                longest = stays;
            }
        }
        return what == 0 ? best : longest;
    }

    public long odds(int corner, int hour, int n) {
        if (!told.isCorner(corner) || told.things == 0 || n < 1 || n > 2 || isBeyond(n)) {
            return NONE;
        }
        if (hour < NONE || hour > LAST_HOUR) {
            return NONE;
        }
        if (hour == NONE) {
            long rows = (long) HUNDRED * told.corners * told.things;
            return n == 1 ? rows : rows * rows;
        }
        lookAt(corner);
        return n == 1 ? countRowsOfOne(hour) : countRowsOfTwo(hour);
    }

    // ---- walks

    public int way(int from, int to) {
        if (!told.isCorner(from) || !told.isCorner(to)) {
            return NONE;
        }
        return walks.stepsOf(told, from, to);
    }

    public int arrive(int from, int to) {
        if (!told.isCorner(from) || !told.isCorner(to)) {
            return NONE;
        }
        int steps = walks.stepsOf(told, from, to);
        if (steps == NONE || steps > MOST_AHEAD || isBeyond(steps)) {
            return NONE;
        }
        foresee(to, hours, steps);
        return hours[steps];
    }

    public int early(int corner) {
        if (!told.isCorner(corner)) {
            return NONE;
        }
        int last = foresee(corner, hours, MOST_AHEAD);
        walks.goOutFrom(told, corner);
        for (int k = 1; k <= last; k++) {
            if (walks.canBeAt(corner, k) && hours[k] < hours[0]) {
                return k;
            }
        }
        return NONE;
    }

    // ---- what was held

    public int see() {
        boolean good = seen.read(tape, told);
        tape.length = 0;
        return good ? seen.count : refuse(OTHER_CALLS);
    }

    public int held(int corner) {
        if (!told.isCorner(corner)) {
            return NONE;
        }
        return findHeld(corner);
    }

    public int tells(int corner, int what) {
        if (!told.isCorner(corner) || what < 0 || what > 1) {
            return NONE;
        }
        int left = findHeld(corner);
        if (left == 0) {
            return NONE;
        }
        int last = Math.min(MOST_SEEN_AHEAD, LAST_MINUTE - state.minute);
        int telling = 0;
        int fewest = seen.mostLeft(left, 0);
        for (int k = 1; k <= last; k++) {
            int most = seen.mostLeft(left, k);
            if (most < fewest) {
                telling = k;
                fewest = most;
            }
        }
        return what == 0 ? telling : fewest;
    }

    // ---- acts

    public int minutes(int n) {
        if (n < 1 || n > MOST_AT_ONCE || isBeyond(n)) {
            return refuse(MINUTE_CALLS);
        }
        past.remember(state);
        int count = 0;
        for (int k = 0; k < n; k++) {
            state.goOn(palm);
            count += state.doWhatIsDue(palm);
        }
        return count;
    }

    public int chance(int n) {
        if (n < 1 || n > MOST_AT_ONCE || isBeyond(n)) {
            return refuse(MINUTE_CALLS);
        }
        past.remember(state);
        int count = 0;
        for (int k = 0; k < n; k++) {
            state.goOn(palm);
            count += letPass();
            state.doWhatIsDue(palm);
        }
        return count;
    }

    public int give(int corner, int thing) {
        if (!told.isCorner(corner) || !told.isThing(thing)) {
            return refuse(PALM_CALLS);
        }
        return putByAct(corner, thing);
    }

    public int take(int corner) {
        if (!told.isCorner(corner) || state.things[corner] == NONE) {
            return refuse(PALM_CALLS);
        }
        return putByAct(corner, NONE);
    }

    public boolean undo() {
        if (!past.bringBack(state)) {
            refuse(UNDO_CALLS);
            return false;
        }
        return true;
    }

    public boolean seed(int seed) {
        if (seed < 0) {
            refuse(OTHER_CALLS);
            return false;
        }
        drawn = seed;
        return true;
    }

    public int kept(int k, int what) {
        if (k < 0 || k >= state.keptCount) {
            return NONE;
        }
        switch (what) {
            case 0: return state.keptMinutes[k];
            case 1: return state.keptDoings[k];
            default: return NONE;
        }
    }

    // ---- images, refusals

    public int image() {
        imageLength = state.writeImage(imageBytes);
        return imageLength;
    }

    public int octet(int k) {
        return k >= 0 && k < imageLength ? imageBytes[k] : NONE;
    }

    public boolean on() {
        boolean good = state.isImage(tape);
        if (good) {
            state.readImage(tape);
            past.count = 0;
        } else {
            refuse(OTHER_CALLS);
        }
        tape.length = 0;
        return good;
    }

    public int status(int what) {
        return what >= 0 && what < KINDS_OF_CALLS ? refused[what] : NONE;
    }

    // ---- helpers

    private int refuse(int calls) {
        if (calls >= 0 && calls < KINDS_OF_CALLS) {
            refused[calls]++;
        }
        return NONE;
    }

    private void begin() {
        palm.town = told;
        state.begin(told);
        state.doWhatIsDue(palm);
        past.count = 0;
        seen.count = 0;
    }

    private boolean isBeyond(int n) {
        return n > LAST_MINUTE - state.minute;
    }

    private void lookAt(int corner) {
        palm.hold(corner, state.things[corner], state.held[corner], state.minute);
    }

    private int hourAt(int corner) {
        lookAt(corner);
        return palm.hourNow();
    }

    private int foresee(int corner, int[] row, int most) {
        lookAt(corner);
        return palm.foresee(row, most);
    }

    private int putByAct(int corner, int thing) {
        past.remember(state);
        state.put(corner, thing);
        state.doWhatIsDue(palm);
        return hourAt(corner);
    }

    private int countStaying(int corner, int thing) {
        palm.hold(corner, thing, 0, state.minute);
        int last = palm.foresee(hours, MOST_AHEAD);
        for (int k = 1; k <= last; k++) {
            if (hours[k] != hours[0]) {
                return k - 1;
            }
        }
        return last;
    }

    private boolean planNothing(int doings, int n) {
        for (int corner = 0; corner < told.corners; corner++) {
            planned[corner] = NONE;
        }
        for (int corner = 0; corner < told.corners; corner++) {
            if (!doesWithout(corner, doings, 1, n)) {
                return false;
            }
        }
        return true;
    }

    /**
     * No palm has a say in another one's HOUR, so each CORNER is planned by itself. Where anything is
     * given, DOINGS of all CORNERS are done behind that: now, not only behind the first MINUTE.
     */
    private boolean planNeeded(int doings, int n) {
        for (int corner = 0; corner < told.corners; corner++) {
            if (!doesWithout(corner, doings, 0, n)) {
                planned[corner] = findGiving(corner, doings, n);
                if (planned[corner] == NONE) {
                    return false;
                }
            }
        }
        return true;
    }

    /** The row with its one THING at the last CORNER that can have it is the first of such rows. */
    private boolean planAnywhere(int doings, int n) {
        for (int corner = told.corners - 1; corner >= 0; corner--) {
            planned[corner] = findGiving(corner, doings, n);
            if (planned[corner] != NONE) {
                return true;
            }
        }
        return false;
    }

    private int findGiving(int corner, int doings, int n) {
        for (int thing = 0; thing < told.things; thing++) {
            palm.hold(corner, thing, 0, state.minute);
            if (doesAll(corner, doings, 0, palm.foresee(hours, n))) {
                return thing;
            }
        }
        return NONE;
    }

    private boolean doesWithout(int corner, int doings, int first, int n) {
        lookAt(corner);
        return doesAll(corner, doings, first, palm.foresee(hours, n));
    }

    private boolean doesAll(int corner, int doings, int first, int last) {
        for (int doing = 0; doing < told.doings; doing++) {
            boolean isAsked = (doings >> doing & 1) == 1 && told.doingCorners[doing] == corner;
            if (isAsked && state.done[doing] == 0 && !tellsWithin(told.doingHours[doing], first, last)) {
                return false;
            }
        }
        return true;
    }

    private boolean tellsWithin(int hour, int first, int last) {
        for (int k = first; k <= last; k++) {
            if (hours[k] == hour) {
                return true;
            }
        }
        return false;
    }

    private int countPlanned() {
        int count = 0;
        for (int corner = 0; corner < told.corners; corner++) {
            if (planned[corner] != NONE) {
                count++;
            }
        }
        return count;
    }

    /** Of one MINUTE's rows, those by which nothing is given to the CORNER that is looked at. */
    private long countRowsWithout() {
        long without = (long) (HUNDRED - told.pass) * told.corners * told.things;
        return without + (long) told.pass * (told.corners - 1) * told.things;
    }

    private long countRowsOfOne(int hour) {
        palm.goOn();
        long rows = palm.hourNow() == hour ? countRowsWithout() : 0;
        for (int thing = 0; thing < told.things; thing++) {
            palm.hold(palm.corner, thing, 0, palm.minute);
            if (palm.hourNow() == hour) {
                rows += told.pass;
            }
        }
        return rows;
    }

    private long countRowsOfTwo(int hour) {
        int corner = palm.corner;
        palm.goOn();
        int minute = palm.minute;
        long rows = countRowsWithout() * countRowsOfOne(hour);
        for (int thing = 0; thing < told.things; thing++) {
            palm.hold(corner, thing, 0, minute);
            rows += told.pass * countRowsOfOne(hour);
        }
        return rows;
    }

    private int findHeld(int corner) {
        // All that was SEEN must be so: at the other CORNERS by what is in their palms.
        for (int other = 0; other < told.corners; other++) {
            if (other != corner && seen.isAbout(other)) {
                int last = foresee(other, hours, MOST_SEEN_AHEAD);
                if (!seen.isSo(other, hours, last)) {
                    return 0;
                }
            }
        }
        int left = 0;
        for (int thing = NONE; thing < told.things; thing++) {
            palm.hold(corner, thing, 0, state.minute);
            int last = palm.foresee(hours, MOST_SEEN_AHEAD);
            seen.noteHours(thing + 1, hours, last);
            if (seen.isSo(corner, hours, last)) {
                left |= 1 << (thing + 1);
            }
        }
        return left;
    }

    private int draw(int m) {
        drawn = (int) ((1103515245L * drawn + 12345L) & 0x7fffffffL);
        return m > 0 ? drawn / 64 % m : 0;
    }

    private int letPass() {
        if (draw(HUNDRED) >= told.pass || told.corners == 0 || told.things == 0) {
            return 0;
        }
        int corner = draw(told.corners);
        state.put(corner, draw(told.things));
        return 1;
    }

    /** The bytes that were fed and not yet used. */
    private static final class Tape {
        final int[] bytes = new int[MOST_BYTES];
        int length = 0;

        boolean hasRoomFor(int count) {
            return length + count <= MOST_BYTES;
        }

        void addNumber(int number) {
            for (int shift = 24; shift >= 0; shift -= 8) {
                if (length < MOST_BYTES) {
                    bytes[length] = number >> shift & 255;
                    length++;
                }
            }
        }

        int at(int place) {
            return place >= 0 && place < length ? bytes[place] : NONE;
        }

        int pairAt(int place) {
            return 256 * at(place) + at(place + 1);
        }
    }

    /** The tape's words, numbers and signs, one at a time; a sign's kind is its byte. */
    private static final class Tokens {
        static final int WRONG_TEXT = 1;
        static final int NAME_GIVEN = 2;
        static final int WRONG_NAME = 3;
        static final int WRONG_NUMBER = 4;
        static final int TOO_DEEP = 5;
        static final int TOO_MANY = 6;

        static final int NUMBER = 256;
        static final int NAME = 257;
        static final int BAD = 258;
        static final int END = 259;
        static final int THING = 260;
        static final int WEIGH = 261;
        static final int LASTS = 262;
        static final int CORNER = 263;
        static final int ROAD = 264;
        static final int TO = 265;
        static final int STEPS = 266;
        static final int PALM = 267;
        static final int HAS = 268;
        static final int DOING = 269;
        static final int AT = 270;
        static final int HOUR = 271;
        static final int SAYS = 272;
        static final int GONE = 273;
        static final int PASS = 274;
        static final int HELD = 275;
        static final int MINUTE = 276;
        static final int EMPTY = 277;
        static final int IF = 278;
        static final int OR = 279;
        static final int AND = 280;
        static final int NOT = 281;
        static final int ALL = 282;
        static final int MIN = 283;
        static final int MAX = 284;
        private static final int OWN_WORD_COUNT = 25;
        // In the order of the kinds above, a blank behind each.
        private static final String OWN_WORDS =
            "thing weigh lasts corner road to steps palm has doing at hour says gone pass held minute empty if or and not all min max ";

        final Tape tape;
        private final int[] ownCodes = new int[OWN_WORD_COUNT];
        int kind = END;
        int start = 0;
        /** Where FAULT 1 is, if this token can't stand here. */
        int place = 0;
        /** The number, or the word's code. */
        int value = 0;
        private int next = 0;
        int fault = 0;
        int faultPlace = NONE;

        Tokens(Tape theTape) {
            tape = theTape;
            int word = 0;
            int code = 0;
            int letters = 0;
            for (int k = 0; k < OWN_WORDS.length(); k++) {
                char c = OWN_WORDS.charAt(k);
                if (c != ' ') {
                    code = 27 * code + c - 'a' + 1;
                    letters++;
                } else if (word < OWN_WORD_COUNT) {
                    ownCodes[word] = fillUp(code, letters);
                    word++;
                    code = 0;
                    letters = 0;
                }
            }
        }

        /** Letter k of a word by its code: six digits to the base of 27, 0 behind the word. */
        static int letterOf(int code, int k) {
            int rest = code;
            for (int behind = MOST_LETTERS - 1; behind > k; behind--) {
                rest /= 27;
            }
            return rest % 27;
        }

        private static int fillUp(int code, int letters) {
            int full = code;
            for (int k = letters; k < MOST_LETTERS; k++) {
                full *= 27;
            }
            return full;
        }

        void begin() {
            fault = 0;
            faultPlace = NONE;
            kind = END;
            next = 0;
            advance();
        }

        boolean fail(int faultKind, int at) {
            fault = faultKind;
            faultPlace = at;
            return false;
        }

        boolean failHere() {
            return fail(WRONG_TEXT, place);
        }

        boolean skip(int wanted) {
            if (kind != wanted) {
                return failHere();
            }
            advance();
            return true;
        }

        void advance() {
            boolean isBehindWord = isWordOrNumber();
            int behind = next;
            skipBlanks();
            start = next;
            place = next;
            int c = tape.at(next);
            if (isLetter(c)) {
                readWord();
            } else if (isDigit(c)) {
                readNumber();
            } else if (c == NONE) {
                kind = END;
            } else {
                kind = c;
                next++;
            }
            if (isBehindWord && start == behind && isWordOrNumber()) {
                kind = BAD;
                place = start;
            }
        }

        private boolean isWordOrNumber() {
            return kind >= NUMBER && kind != END;
        }

        private void skipBlanks() {
            for (int k = next; k < tape.length && (tape.at(k) == ' ' || tape.at(k) == '\n'); k++) {
                next = k + 1;
            }
        }

        private static boolean isLetter(int c) {
            return c >= 'a' && c <= 'z';
        }

        private static boolean isDigit(int c) {
            return c >= '0' && c <= '9';
        }

        private void readWord() {
            int code = 0;
            for (int k = start; k < tape.length && isLetter(tape.at(k)); k++) {
                if (k - start < MOST_LETTERS) {
                    code = 27 * code + tape.at(k) - 'a' + 1;
                }
                next = k + 1;
            }
            if (next - start > MOST_LETTERS) {
                kind = BAD;
                place = start + MOST_LETTERS;
                return;
            }
            value = fillUp(code, next - start);
            kind = kindOf(value);
        }

        private int kindOf(int code) {
            for (int word = 0; word < OWN_WORD_COUNT; word++) {
                if (ownCodes[word] == code) {
                    return THING + word;
                }
            }
            return NAME;
        }

        private void readNumber() {
            int number = 0;
            for (int k = start; k < tape.length && isDigit(tape.at(k)); k++) {
                if (k - start < MOST_DIGITS) {
                    number = 10 * number + tape.at(k) - '0';
                }
                next = k + 1;
            }
            value = number;
            kind = NUMBER;
            if (next - start > MOST_DIGITS) {
                kind = BAD;
                place = start + MOST_DIGITS;
            }
        }
    }

    /**
     * A SUM or a TEST, its parts ahead of what joins them, so that no recursion is needed to work it out.
     * A step from 0 on is a number; a TEST gives 1 or 0.
     */
    private static final class Formula {
        static final int WEIGH = -1;
        static final int HELD = -2;
        static final int CORNER = -3;
        static final int MINUTE = -4;
        static final int EMPTY = -5;
        static final int LASTS = -6;
        static final int PLUS = -7;
        static final int LESS = -8;
        static final int TIMES = -9;
        static final int OVER = -10;
        static final int REST = -11;
        static final int LEAST = -12;
        static final int MOST = -13;
        static final int CHOOSE = -14;
        static final int BELOW = -15;
        static final int ABOVE = -16;
        static final int SAME = -17;
        static final int AND = -18;
        static final int OR = -19;

        // Each step comes from a byte or more of its own.
        final int[] steps = new int[MOST_BYTES];
        int size = 0;

        boolean isTold() {
            return size > 0;
        }

        void add(int step) {
            if (size < MOST_BYTES) {
                steps[size] = step;
                size++;
            }
        }
    }

    /** What the text told. */
    private static final class Town {
        int statements = 0;
        int things = 0;
        final int[] thingNames = new int[MOST_THINGS];
        final int[] weighs = new int[MOST_THINGS];
        final int[] lasts = new int[MOST_THINGS];
        int corners = 0;
        final int[] cornerNames = new int[MOST_CORNERS];
        final int[] palms = new int[MOST_CORNERS];
        int roads = 0;
        final int[] roadFrom = new int[MOST_ROADS];
        final int[] roadTo = new int[MOST_ROADS];
        final int[] roadSteps = new int[MOST_ROADS];
        int doings = 0;
        final int[] doingNames = new int[MOST_DOINGS];
        final int[] doingCorners = new int[MOST_DOINGS];
        final int[] doingHours = new int[MOST_DOINGS];
        int pass = 0;
        final Formula says = new Formula();
        final Formula gone = new Formula();

        void clear() {
            statements = 0;
            things = 0;
            corners = 0;
            roads = 0;
            doings = 0;
            pass = 0;
            says.size = 0;
            gone.size = 0;
        }

        boolean isThing(int thing) {
            return thing >= 0 && thing < things;
        }

        boolean isCorner(int corner) {
            return corner >= 0 && corner < corners;
        }

        boolean isDoing(int doing) {
            return doing >= 0 && doing < doings;
        }

        int findThing(int name) {
            return find(thingNames, things, name);
        }

        int findCorner(int name) {
            return find(cornerNames, corners, name);
        }

        int findDoing(int name) {
            return find(doingNames, doings, name);
        }

        private static int find(int[] names, int count, int name) {
            for (int k = 0; k < count && k < names.length; k++) {
                if (names[k] == name) {
                    return k;
                }
            }
            return NONE;
        }

        boolean hasRoad(int one, int other) {
            for (int k = 0; k < roads; k++) {
                boolean there = roadFrom[k] == one && roadTo[k] == other;
                boolean back = roadFrom[k] == other && roadTo[k] == one;
                if (there || back) {
                    return true;
                }
            }
            return false;
        }

        void addThing(int name, int weigh, int lasting) {
            if (things < MOST_THINGS) {
                thingNames[things] = name;
                weighs[things] = weigh;
                lasts[things] = lasting;
                things++;
            }
        }

        void addCorner(int name) {
            if (corners < MOST_CORNERS) {
                cornerNames[corners] = name;
                palms[corners] = NONE;
                corners++;
            }
        }

        void addRoad(int from, int to, int steps) {
            if (roads < MOST_ROADS) {
                roadFrom[roads] = from;
                roadTo[roads] = to;
                roadSteps[roads] = steps;
                roads++;
            }
        }

        void addDoing(int name, int corner, int hour) {
            if (doings < MOST_DOINGS) {
                doingNames[doings] = name;
                doingCorners[doings] = corner;
                doingHours[doings] = hour;
                doings++;
            }
        }
    }

    /** Reads a TOWN's STATEMENTS up to its first FAULT. */
    private static final class Reader {
        final Tokens tokens;
        private final Phrases phrases;
        private Town town;

        Reader(Tape tape, Town into) {
            tokens = new Tokens(tape);
            phrases = new Phrases(tokens, into.says);
            town = into;
        }

        boolean read(Town into) {
            town = into;
            town.clear();
            tokens.begin();
            for (int k = 0; k < MOST_STATEMENTS && tokens.kind != Tokens.END; k++) {
                if (!readStatement() || !tokens.skip(';')) {
                    return false;
                }
                town.statements++;
            }
            return tokens.kind == Tokens.END || tokens.fail(Tokens.TOO_MANY, tokens.start);
        }

        private boolean readStatement() {
            switch (tokens.kind) {
                case Tokens.THING: return skipFirst(town.things < MOST_THINGS) && readThing();
                case Tokens.CORNER: return skipFirst(town.corners < MOST_CORNERS) && readCorner();
                case Tokens.ROAD: return skipFirst(town.roads < MOST_ROADS) && readRoad();
                case Tokens.PALM: return skipFirst(true) && readPalm();
                case Tokens.DOING: return skipFirst(town.doings < MOST_DOINGS) && readDoing();
                case Tokens.SAYS: return skipFirst(!town.says.isTold()) && phrases.readSays(town.says);
                case Tokens.GONE: return skipFirst(!town.gone.isTold()) && phrases.readGone(town.gone);
                case Tokens.PASS: return skipFirst(true) && readPass();
                default: return tokens.failHere();
            }
        }

        private boolean skipFirst(boolean isRoom) {
            if (!isRoom) {
                return tokens.fail(Tokens.TOO_MANY, tokens.start);
            }
            tokens.advance();
            return true;
        }

        private boolean readThing() {
            int name = newName();
            if (name == NONE || !tokens.skip(Tokens.WEIGH)) {
                return false;
            }
            int weigh = number(0, 99);
            if (weigh == NONE || !tokens.skip(Tokens.LASTS)) {
                return false;
            }
            int lasting = number(1, 99);
            if (lasting == NONE) {
                return false;
            }
            town.addThing(name, weigh, lasting);
            return true;
        }

        private boolean readCorner() {
            int name = newName();
            if (name == NONE) {
                return false;
            }
            town.addCorner(name);
            return true;
        }

        private boolean readRoad() {
            int from = cornerHere();
            if (from == NONE) {
                return false;
            }
            tokens.advance();
            if (!tokens.skip(Tokens.TO)) {
                return false;
            }
            int to = cornerHere();
            if (to == NONE) {
                return false;
            }
            if (to == from || town.hasRoad(from, to)) {
                return tokens.fail(Tokens.WRONG_NAME, tokens.start);
            }
            tokens.advance();
            int steps = tokens.skip(Tokens.STEPS) ? number(1, 30) : NONE;
            if (steps == NONE) {
                return false;
            }
            town.addRoad(from, to, steps);
            return true;
        }

        private boolean readPalm() {
            int corner = cornerHere();
            if (corner == NONE) {
                return false;
            }
            if (town.palms[corner] != NONE) {
                return tokens.fail(Tokens.WRONG_NAME, tokens.start);
            }
            tokens.advance();
            if (!tokens.skip(Tokens.HAS)) {
                return false;
            }
            if (tokens.kind != Tokens.NAME) {
                return tokens.failHere();
            }
            int thing = town.findThing(tokens.value);
            if (thing == NONE) {
                return tokens.fail(Tokens.WRONG_NAME, tokens.start);
            }
            tokens.advance();
            town.palms[corner] = thing;
            return true;
        }

        private boolean readDoing() {
            int name = newName();
            if (name == NONE || !tokens.skip(Tokens.AT)) {
                return false;
            }
            int corner = cornerHere();
            if (corner == NONE) {
                return false;
            }
            tokens.advance();
            int hour = tokens.skip(Tokens.HOUR) ? number(0, LAST_HOUR) : NONE;
            if (hour == NONE) {
                return false;
            }
            town.addDoing(name, corner, hour);
            return true;
        }

        private boolean readPass() {
            int pass = number(0, HUNDRED);
            if (pass == NONE) {
                return false;
            }
            town.pass = pass;
            return true;
        }

        private int newName() {
            int name = tokens.value;
            if (tokens.kind != Tokens.NAME) {
                tokens.failHere();
                return NONE;
            }
            if (town.findThing(name) != NONE || town.findCorner(name) != NONE || town.findDoing(name) != NONE) {
                tokens.fail(Tokens.NAME_GIVEN, tokens.start);
                return NONE;
            }
            tokens.advance();
            return name;
        }

        /** Stays at the NAME: where it can't be is for the STATEMENT to say. */
        private int cornerHere() {
            if (tokens.kind != Tokens.NAME) {
                tokens.failHere();
                return NONE;
            }
            int corner = town.findCorner(tokens.value);
            if (corner == NONE) {
                tokens.fail(Tokens.WRONG_NAME, tokens.start);
            }
            return corner;
        }

        private int number(int least, int most) {
            int number = tokens.value;
            if (tokens.kind != Tokens.NUMBER) {
                tokens.failHere();
                return NONE;
            }
            if (number < least || number > most) {
                tokens.fail(Tokens.WRONG_NUMBER, tokens.start);
                return NONE;
            }
            tokens.advance();
            return number;
        }
    }

    /** Reads SUMS and TESTS; "open" is how many ( [ not are open, which keeps the recursion low. */
    private static final class Phrases {
        private final Tokens tokens;
        private Formula formula;
        private boolean isGone = false;

        Phrases(Tokens theTokens, Formula into) {
            tokens = theTokens;
            formula = into;
        }

        boolean readSays(Formula into) {
            formula = into;
            isGone = false;
            return readSum(0);
        }

        boolean readGone(Formula into) {
            formula = into;
            isGone = true;
            return readTest(0);
        }

        private boolean goIn(int kind, int open) {
            if (tokens.kind != kind) {
                return tokens.failHere();
            }
            if (open >= MOST_OPEN) {
                return tokens.fail(Tokens.TOO_DEEP, tokens.start);
            }
            tokens.advance();
            return true;
        }

        private boolean add(int step) {
            formula.add(step);
            return true;
        }

        private boolean readSum(int open) {
            if (!readProduct(open)) {
                return false;
            }
            for (int k = 0; k < MOST_BYTES && sumStep() != 0; k++) {
                int step = sumStep();
                tokens.advance();
                if (!readProduct(open)) {
                    return false;
                }
                formula.add(step);
            }
            return true;
        }

        private int sumStep() {
            switch (tokens.kind) {
                case '+': return Formula.PLUS;
                case '-': return Formula.LESS;
                default: return 0;
            }
        }

        private boolean readProduct(int open) {
            if (!readPart(open)) {
                return false;
            }
            for (int k = 0; k < MOST_BYTES && productStep() != 0; k++) {
                int step = productStep();
                tokens.advance();
                if (!readPart(open)) {
                    return false;
                }
                formula.add(step);
            }
            return true;
        }

        private int productStep() {
            switch (tokens.kind) {
                case '*': return Formula.TIMES;
                case '/': return Formula.OVER;
                case '%': return Formula.REST;
                default: return 0;
            }
        }

        private boolean readPart(int open) {
            switch (tokens.kind) {
                case Tokens.NUMBER: return addAndAdvance(tokens.value);
                case Tokens.WEIGH: return addAndAdvance(Formula.WEIGH);
                case Tokens.HELD: return addAndAdvance(Formula.HELD);
                case Tokens.CORNER: return addAndAdvance(Formula.CORNER);
                case Tokens.MINUTE: return addAndAdvance(Formula.MINUTE);
                case Tokens.EMPTY: return isGone ? tokens.failHere() : addAndAdvance(Formula.EMPTY);
                case Tokens.LASTS: return isGone ? addAndAdvance(Formula.LASTS) : tokens.failHere();
                case Tokens.MIN: return readPair(open, Formula.LEAST);
                case Tokens.MAX: return readPair(open, Formula.MOST);
                case Tokens.IF: return readChoice(open);
                case '(': return goIn('(', open) && readSum(open + 1) && tokens.skip(')');
                default: return tokens.failHere();
            }
        }

        private boolean addAndAdvance(int step) {
            formula.add(step);
            tokens.advance();
            return true;
        }

        private boolean readPair(int open, int step) {
            tokens.advance();
            return goIn('(', open) && readSum(open + 1) && tokens.skip(',')
                && readSum(open + 1) && tokens.skip(')') && add(step);
        }

        private boolean readChoice(int open) {
            tokens.advance();
            return goIn('(', open) && readTest(open + 1) && tokens.skip(',') && readSum(open + 1) && tokens.skip(',')
                && readSum(open + 1) && tokens.skip(')') && add(Formula.CHOOSE);
        }

        private boolean readTest(int open) {
            if (!readBoth(open)) {
                return false;
            }
            for (int k = 0; k < MOST_BYTES && tokens.kind == Tokens.OR; k++) {
                tokens.advance();
                if (!readBoth(open)) {
                    return false;
                }
                formula.add(Formula.OR);
            }
            return true;
        }

        private boolean readBoth(int open) {
            if (!readFact(open)) {
                return false;
            }
            for (int k = 0; k < MOST_BYTES && tokens.kind == Tokens.AND; k++) {
                tokens.advance();
                if (!readFact(open)) {
                    return false;
                }
                formula.add(Formula.AND);
            }
            return true;
        }

        private boolean readFact(int open) {
            switch (tokens.kind) {
                case Tokens.NOT: return goIn(Tokens.NOT, open) && readFact(open + 1) && add(0) && add(Formula.SAME);
                case '[': return goIn('[', open) && readTest(open + 1) && tokens.skip(']');
                case Tokens.ALL: return addAndAdvance(1);
                default: return readComparison(open);
            }
        }

        private boolean readComparison(int open) {
            if (!readSum(open)) {
                return false;
            }
            int step = comparisonStep();
            if (step == 0) {
                return tokens.failHere();
            }
            tokens.advance();
            return readSum(open) && add(step);
        }

        private int comparisonStep() {
            switch (tokens.kind) {
                case '<': return Formula.BELOW;
                case '>': return Formula.ABOVE;
                case '=': return Formula.SAME;
                default: return 0;
            }
        }
    }

    /** One palm that is looked at, now or as it goes on. */
    private static final class Palm {
        private static final int FURTHEST = 1000000;
        // A level of ( [ not leaves at most five results waiting, and there are eight levels.
        private static final int MOST_WAITING = 64;
        private static final int FACTS = 6;

        Town town;
        int corner = 0;
        int thing = NONE;
        int held = 0;
        int minute = 0;
        private final int[] facts = new int[FACTS];
        private final int[] waiting = new int[MOST_WAITING];
        private int waitingCount = 0;

        Palm(Town ofTown) {
            town = ofTown;
        }

        void hold(int atCorner, int aThing, int heldFor, int atMinute) {
            corner = atCorner;
            thing = aThing;
            held = heldFor;
            minute = atMinute;
        }

        int hourNow() {
            int hour = 0;
            if (town.says.isTold()) {
                hour = valueOf(town.says);
            } else if (town.isThing(thing)) {
                hour = town.weighs[thing];
            }
            return Math.max(0, Math.min(LAST_HOUR, hour));
        }

        void goOn() {
            minute = Math.min(LAST_MINUTE, minute + 1);
            held = Math.min(LONGEST_HELD, held + 1);
            if (!town.isThing(thing)) {
                return;
            }
            boolean isGone = town.gone.isTold() ? valueOf(town.gone) != 0 : held >= town.lasts[thing];
            if (isGone) {
                thing = NONE;
                held = 0;
            }
        }

        /** The HOURS now and behind each MINUTE ahead, up to the most or MINUTE 9999: how many MINUTES. */
        int foresee(int[] hours, int most) {
            int last = Math.min(Math.min(most, hours.length - 1), LAST_MINUTE - minute);
            for (int k = 0; k <= last; k++) {
                if (k > 0) {
                    goOn();
                }
                hours[k] = hourNow();
            }
            return last;
        }

        private int valueOf(Formula formula) {
            boolean isEmpty = !town.isThing(thing);
            facts[-1 - Formula.WEIGH] = isEmpty ? 0 : town.weighs[thing];
            facts[-1 - Formula.HELD] = held;
            facts[-1 - Formula.CORNER] = corner;
            facts[-1 - Formula.MINUTE] = minute;
            facts[-1 - Formula.EMPTY] = isEmpty ? 1 : 0;
            facts[-1 - Formula.LASTS] = isEmpty ? 0 : town.lasts[thing];
            waitingCount = 0;
            for (int k = 0; k < formula.size; k++) {
                int step = formula.steps[k];
                if (step < -FACTS) {
                    join(step);
                } else if (waitingCount < MOST_WAITING) {
                    waiting[waitingCount] = step >= 0 ? step : facts[-1 - step];
                    waitingCount++;
                }
            }
            return waitingCount > 0 ? waiting[0] : 0;
        }

        /** The last two results that wait (of a choice: three) become one. */
        private void join(int step) {
            int parts = step == Formula.CHOOSE ? 3 : 2;
            if (waitingCount < parts) {
                return;
            }
            waitingCount -= parts - 1;
            int first = waitingCount - 1;
            int left = waiting[first];
            int right = waiting[first + 1];
            long result = 0;
            switch (step) {
                case Formula.PLUS: result = (long) left + right; break;
                case Formula.LESS: result = (long) left - right; break;
                case Formula.TIMES: result = (long) left * right; break;
                case Formula.OVER: result = right == 0 ? 0 : Math.floorDiv(left, right); break;
                case Formula.REST: result = right == 0 ? 0 : Math.floorMod(left, right); break;
                case Formula.LEAST: result = Math.min(left, right); break;
                case Formula.MOST: result = Math.max(left, right); break;
                case Formula.CHOOSE: result = left != 0 ? right : waiting[first + 2]; break;
                case Formula.BELOW: result = left < right ? 1 : 0; break;
                case Formula.ABOVE: result = left > right ? 1 : 0; break;
                case Formula.SAME: result = left == right ? 1 : 0; break;
                case Formula.AND: result = left & right; break;
                case Formula.OR: result = left | right; break;
                default: break;
            }
            waiting[first] = (int) Math.max(-FURTHEST, Math.min(FURTHEST, result));
        }
    }

    /** What is so now: the MINUTE, what is in the palms, what is done and KEPT. */
    private static final class State {
        static final int ROW = 2 + 2 * MOST_CORNERS + MOST_DOINGS;

        private Town town;
        int minute = 0;
        final int[] things = new int[MOST_CORNERS];
        final int[] held = new int[MOST_CORNERS];
        final int[] done = new int[MOST_DOINGS];
        // A DOING is done once until KEPT is emptied, so that the 40 of the document are never reached.
        int keptCount = 0;
        final int[] keptMinutes = new int[MOST_DOINGS];
        final int[] keptDoings = new int[MOST_DOINGS];

        State(Town ofTown) {
            town = ofTown;
        }

        void begin(Town ofTown) {
            town = ofTown;
            minute = 0;
            keptCount = 0;
            for (int corner = 0; corner < town.corners; corner++) {
                put(corner, town.palms[corner]);
            }
            for (int doing = 0; doing < town.doings; doing++) {
                done[doing] = 0;
            }
        }

        int countDone() {
            int count = 0;
            for (int doing = 0; doing < town.doings; doing++) {
                count += done[doing];
            }
            return count;
        }

        int countEmpty() {
            int count = 0;
            for (int corner = 0; corner < town.corners; corner++) {
                if (things[corner] == NONE) {
                    count++;
                }
            }
            return count;
        }

        void put(int corner, int thing) {
            if (corner >= 0 && corner < MOST_CORNERS) {
                things[corner] = thing;
                held[corner] = 0;
            }
        }

        void goOn(Palm palm) {
            for (int corner = 0; corner < town.corners; corner++) {
                palm.hold(corner, things[corner], held[corner], minute);
                palm.goOn();
                things[corner] = palm.thing;
                held[corner] = palm.held;
            }
            minute = Math.min(LAST_MINUTE, minute + 1);
        }

        int doWhatIsDue(Palm palm) {
            int count = 0;
            for (int doing = 0; doing < town.doings; doing++) {
                if (done[doing] == 0 && isDue(doing, palm)) {
                    done[doing] = 1;
                    keep(doing);
                    count++;
                }
            }
            return count;
        }

        private boolean isDue(int doing, Palm palm) {
            int corner = town.doingCorners[doing];
            palm.hold(corner, things[corner], held[corner], minute);
            return palm.hourNow() == town.doingHours[doing];
        }

        private void keep(int doing) {
            if (keptCount < MOST_DOINGS) {
                keptMinutes[keptCount] = minute;
                keptDoings[keptCount] = doing;
                keptCount++;
            }
        }

        void save(int[] row) {
            if (row.length < ROW) {
                return;
            }
            row[0] = minute;
            // What is KEPT grows at its end alone, so that its length is enough to bring it back.
            row[1] = keptCount;
            System.arraycopy(things, 0, row, 2, MOST_CORNERS);
            System.arraycopy(held, 0, row, 2 + MOST_CORNERS, MOST_CORNERS);
            System.arraycopy(done, 0, row, 2 + 2 * MOST_CORNERS, MOST_DOINGS);
        }

        void bringBack(int[] row) {
            if (row.length < ROW) {
                return;
            }
            minute = row[0];
            keptCount = row[1];
            System.arraycopy(row, 2, things, 0, MOST_CORNERS);
            System.arraycopy(row, 2 + MOST_CORNERS, held, 0, MOST_CORNERS);
            System.arraycopy(row, 2 + 2 * MOST_CORNERS, done, 0, MOST_DOINGS);
        }

        private int imageSize() {
            return 2 + 3 * town.corners + town.doings + 1;
        }

        private static int checkOf(int[] bytes, int count) {
            int check = 227;
            for (int k = 0; k < count && k < bytes.length; k++) {
                check = (5 * check + bytes[k]) % 251;
            }
            return check;
        }

        int writeImage(int[] bytes) {
            int size = imageSize();
            if (bytes.length < size) {
                return 0;
            }
            bytes[0] = minute >> 8;
            bytes[1] = minute & 255;
            for (int corner = 0; corner < town.corners; corner++) {
                int at = 2 + 3 * corner;
                bytes[at] = things[corner] == NONE ? NO_THING_BYTE : things[corner];
                bytes[at + 1] = held[corner] >> 8;
                bytes[at + 2] = held[corner] & 255;
            }
            for (int doing = 0; doing < town.doings; doing++) {
                bytes[2 + 3 * town.corners + doing] = done[doing];
            }
            bytes[size - 1] = checkOf(bytes, size - 1);
            return size;
        }

        boolean isImage(Tape tape) {
            int size = imageSize();
            if (tape.length != size || tape.pairAt(0) > LAST_MINUTE) {
                return false;
            }
            for (int corner = 0; corner < town.corners; corner++) {
                int thing = tape.at(2 + 3 * corner);
                boolean canBe = thing == NO_THING_BYTE || town.isThing(thing);
                if (!canBe || tape.pairAt(3 + 3 * corner) > LONGEST_HELD) {
                    return false;
                }
            }
            for (int doing = 0; doing < town.doings; doing++) {
                if (tape.at(2 + 3 * town.corners + doing) > 1) {
                    return false;
                }
            }
            return tape.at(size - 1) == checkOf(tape.bytes, size - 1);
        }

        void readImage(Tape tape) {
            minute = tape.pairAt(0);
            keptCount = 0;
            for (int corner = 0; corner < town.corners; corner++) {
                int thing = tape.at(2 + 3 * corner);
                things[corner] = thing == NO_THING_BYTE ? NONE : thing;
                held[corner] = tape.pairAt(3 + 3 * corner);
            }
            for (int doing = 0; doing < town.doings; doing++) {
                done[doing] = tape.at(2 + 3 * town.corners + doing);
            }
        }
    }

    /** What was so ahead of each of the last ACTS, in a ring. */
    private static final class Past {
        private final int[][] rows = new int[MOST_ACTS][State.ROW];
        private int next = 0;
        int count = 0;

        void remember(State state) {
            state.save(rows[next]);
            next = (next + 1) % MOST_ACTS;
            count = Math.min(MOST_ACTS, count + 1);
        }

        boolean bringBack(State state) {
            if (count <= 0) {
                return false;
            }
            next = (next + MOST_ACTS - 1) % MOST_ACTS;
            count--;
            state.bringBack(rows[next]);
            return true;
        }
    }

    /** Ways along the ROADS. */
    private static final class Walks {
        private static final int FAR = 1000000;

        private final int[] shortest = new int[MOST_CORNERS];
        /** For each number of steps the CORNERS, as bits, at which a walk can be behind them. */
        private final int[] ends = new int[MOST_AHEAD + 1];

        int stepsOf(Town town, int from, int to) {
            for (int corner = 0; corner < MOST_CORNERS; corner++) {
                shortest[corner] = corner == from ? 0 : FAR;
            }
            for (int round = 0; round < town.corners; round++) {
                for (int road = 0; road < town.roads; road++) {
                    shorten(town.roadFrom[road], town.roadTo[road], town.roadSteps[road]);
                    shorten(town.roadTo[road], town.roadFrom[road], town.roadSteps[road]);
                }
            }
            return town.isCorner(to) && shortest[to] < FAR ? shortest[to] : NONE;
        }

        private void shorten(int from, int to, int steps) {
            shortest[to] = Math.min(shortest[to], shortest[from] + steps);
        }

        void goOutFrom(Town town, int corner) {
            ends[0] = 1 << corner;
            for (int k = 1; k <= MOST_AHEAD; k++) {
                ends[k] = 0;
                for (int road = 0; road < town.roads; road++) {
                    int begun = k - town.roadSteps[road];
                    if (begun >= 0) {
                        ends[k] |= across(town, road, ends[begun]);
                    }
                }
            }
        }

        private static int across(Town town, int road, int begins) {
            int from = town.roadFrom[road];
            int to = town.roadTo[road];
            return (begins >> from & 1) << to | (begins >> to & 1) << from;
        }

        boolean canBeAt(int corner, int steps) {
            return steps >= 0 && steps <= MOST_AHEAD && (ends[steps] >> corner & 1) == 1;
        }
    }

    /** What was SEEN, and the HOURS that a CORNER tells by each THING, or none, that it could hold. */
    private static final class Seen {
        private static final int CHOICES = 1 + MOST_THINGS;

        int count = 0;
        private final int[] ahead = new int[MOST_SEEN];
        private final int[] corners = new int[MOST_SEEN];
        private final int[] hours = new int[MOST_SEEN];
        private final int[][] hoursBy = new int[CHOICES][MOST_SEEN_AHEAD + 1];

        boolean read(Tape tape, Town town) {
            int rows = tape.length / 3;
            if (rows < 1 || rows > MOST_SEEN || tape.length != 3 * rows) {
                return false;
            }
            for (int k = 0; k < rows; k++) {
                boolean isRow = tape.at(3 * k) <= MOST_SEEN_AHEAD && town.isCorner(tape.at(3 * k + 1));
                if (!isRow || tape.at(3 * k + 2) > LAST_HOUR) {
                    return false;
                }
            }
            for (int k = 0; k < rows; k++) {
                ahead[k] = tape.at(3 * k);
                corners[k] = tape.at(3 * k + 1);
                hours[k] = tape.at(3 * k + 2);
            }
            count = rows;
            return true;
        }

        boolean isAbout(int corner) {
            for (int k = 0; k < count; k++) {
                if (corners[k] == corner) {
                    return true;
                }
            }
            return false;
        }

        /** Whether a CORNER with these HOURS, told up to the last MINUTE ahead, is as it was SEEN. */
        boolean isSo(int corner, int[] toldHours, int last) {
            for (int k = 0; k < count; k++) {
                if (corners[k] == corner) {
                    boolean isTold = ahead[k] <= last && ahead[k] < toldHours.length;
                    if (!isTold || toldHours[ahead[k]] != hours[k]) {
                        return false;
                    }
                }
            }
            return true;
        }

        void noteHours(int choice, int[] toldHours, int last) {
            if (choice < 0 || choice >= CHOICES) {
                return;
            }
            for (int k = 0; k <= last && k <= MOST_SEEN_AHEAD && k < toldHours.length; k++) {
                hoursBy[choice][k] = toldHours[k];
            }
        }

        /** How many of the choices that are left tell the HOUR that most of them tell. */
        int mostLeft(int left, int minutesAhead) {
            if (minutesAhead < 0 || minutesAhead > MOST_SEEN_AHEAD) {
                return 0;
            }
            int most = 0;
            for (int one = 0; one < CHOICES; one++) {
                int alike = 0;
                for (int other = 0; other < CHOICES; other++) {
                    boolean areLeft = (left >> one & 1) == 1 && (left >> other & 1) == 1;
                    if (areLeft && hoursBy[one][minutesAhead] == hoursBy[other][minutesAhead]) {
                        alike++;
                    }
                }
                most = Math.max(most, alike);
            }
            return most;
        }
    }
}
