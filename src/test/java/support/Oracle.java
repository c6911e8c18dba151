import java.util.ArrayList;
import java.util.Arrays;
import java.util.HashMap;
import java.util.List;
import java.util.Map;

/**
 * The document told once more, as plainly and as dearly as can be: every question is answered by
 * trying all rows, walks and minutes on copies of the whole state.
 */
final class Oracle {
    static final class Fault extends Exception {
        private static final long serialVersionUID = 1L;
        final int kind;
        final int place;

        Fault(int kind, int place) {
            this.kind = kind;
            this.place = place;
        }
    }

    record Token(String text, int at, boolean joined) {
        boolean isWord() {
            return !text.isEmpty() && text.charAt(0) >= 'a' && text.charAt(0) <= 'z';
        }

        boolean isNumber() {
            return !text.isEmpty() && text.charAt(0) >= '0' && text.charAt(0) <= '9';
        }
    }

    record Thing(String name, int weigh, int lasts) { }

    record Road(int from, int to, int steps) { }

    record Doing(String name, int corner, int hour) { }

    record Kept(int minute, int doing) { }

    record SeenRow(int ahead, int corner, int hour) { }

    record Facts(int weigh, int held, int corner, int minute, int empty, int lasts) { }

    interface Sum {
        long of(Facts f);
    }

    interface Test {
        boolean of(Facts f);
    }

    static final class Town {
        int statements = 0;
        final List<Thing> things = new ArrayList<>();
        final List<String> corners = new ArrayList<>();
        final List<Road> roads = new ArrayList<>();
        final Map<Integer, Integer> palms = new HashMap<>();
        final List<Doing> doings = new ArrayList<>();
        Sum says = null;
        Test gone = null;
        int pass = 0;
    }

    /** The text's STATEMENTS, by exceptions where the class answers false. */
    static final class Parser {
        static final List<String> OWN = Arrays.asList("thing", "weigh", "lasts", "corner", "road", "to", "steps",
            "palm", "has", "doing", "at", "hour", "says", "gone", "pass", "held", "minute", "empty", "if", "or",
            "and", "not", "all", "min", "max");
        final List<Token> tokens = new ArrayList<>();
        final Town town = new Town();
        int k = 0;
        int open = 0;
        boolean inGone = false;

        Parser(byte[] bytes) {
            int at = 0;
            String last = "";
            int lastEnd = -1;
            while (at < bytes.length) {
                char c = (char) (bytes[at] & 255);
                if (c == 10 || c == 32) {
                    at++;
                    continue;
                }
                int end = at + 1;
                String kind = kindOf(c);
                while (!kind.equals("sign") && end < bytes.length && kindOf((char) (bytes[end] & 255)).equals(kind)) {
                    end++;
                }
                StringBuilder text = new StringBuilder();
                for (int j = at; j < end; j++) {
                    text.append((char) (bytes[j] & 255));
                }
                boolean joined = lastEnd == at && !kind.equals("sign") && !last.equals("sign");
                tokens.add(new Token(text.toString(), at, joined));
                last = kind;
                lastEnd = end;
                at = end;
            }
            tokens.add(new Token("", bytes.length, false));
        }

        static String kindOf(char c) {
            return c >= 'a' && c <= 'z' ? "word" : c >= '0' && c <= '9' ? "number" : "sign";
        }

        Token now() {
            return tokens.get(k);
        }

        /** The FAULT of a token that can't stand where it is. */
        Fault wrong() {
            Token t = now();
            if (!t.joined && t.isWord() && t.text.length() > 6) {
                return new Fault(1, t.at + 6);
            }
            if (!t.joined && t.isNumber() && t.text.length() > 4) {
                return new Fault(1, t.at + 4);
            }
            return new Fault(1, t.at);
        }

        boolean is(String text) {
            return now().text.equals(text) && !now().joined && now().text.length() > 0;
        }

        void pass(String text) throws Fault {
            if (!is(text)) {
                throw wrong();
            }
            k++;
        }

        String name() throws Fault {
            Token t = now();
            if (!t.isWord() || t.joined || t.text.length() > 6 || OWN.contains(t.text)) {
                throw wrong();
            }
            return t.text;
        }

        String newName() throws Fault {
            String name = name();
            boolean there = town.corners.contains(name);
            for (Thing t : town.things) {
                there |= t.name.equals(name);
            }
            for (Doing d : town.doings) {
                there |= d.name.equals(name);
            }
            if (there) {
                throw new Fault(2, now().at);
            }
            k++;
            return name;
        }

        int number(int least, int most) throws Fault {
            Token t = now();
            if (!t.isNumber() || t.joined || t.text.length() > 4) {
                throw wrong();
            }
            int n = Integer.parseInt(t.text);
            if (n < least || n > most) {
                throw new Fault(4, t.at);
            }
            k++;
            return n;
        }

        int corner() throws Fault {
            int corner = town.corners.indexOf(name());
            if (corner < 0) {
                throw new Fault(3, now().at);
            }
            k++;
            return corner;
        }

        Town parse() throws Fault {
            while (!now().text.isEmpty()) {
                if (town.statements == 80) {
                    throw new Fault(6, now().at);
                }
                statement();
                pass(";");
                town.statements++;
            }
            return town;
        }

        void first(boolean room) throws Fault {
            if (!room) {
                throw new Fault(6, now().at);
            }
            k++;
        }

        void statement() throws Fault {
            if (is("thing")) {
                first(town.things.size() < 6);
                String name = newName();
                pass("weigh");
                int weigh = number(0, 99);
                pass("lasts");
                town.things.add(new Thing(name, weigh, number(1, 99)));
            } else if (is("corner")) {
                first(town.corners.size() < 5);
                town.corners.add(newName());
            } else if (is("road")) {
                first(town.roads.size() < 10);
                road();
            } else if (is("palm")) {
                first(true);
                palm();
            } else if (is("doing")) {
                first(town.doings.size() < 6);
                String name = newName();
                pass("at");
                int corner = corner();
                pass("hour");
                town.doings.add(new Doing(name, corner, number(0, 23)));
            } else if (is("says")) {
                first(town.says == null);
                inGone = false;
                town.says = sum();
            } else if (is("gone")) {
                first(town.gone == null);
                inGone = true;
                town.gone = test();
            } else if (is("pass")) {
                first(true);
                town.pass = number(0, 100);
            } else {
                throw wrong();
            }
        }

        void road() throws Fault {
            int from = corner();
            pass("to");
            int at = now().at;
            int to = corner();
            boolean cannot = from == to;
            for (Road r : town.roads) {
                cannot |= r.from == from && r.to == to || r.from == to && r.to == from;
            }
            if (cannot) {
                throw new Fault(3, at);
            }
            pass("steps");
            town.roads.add(new Road(from, to, number(1, 30)));
        }

        void palm() throws Fault {
            int at = now().at;
            int corner = corner();
            if (town.palms.containsKey(corner)) {
                throw new Fault(3, at);
            }
            pass("has");
            String name = name();
            for (int t = 0; t < town.things.size(); t++) {
                if (town.things.get(t).name.equals(name)) {
                    town.palms.put(corner, t);
                }
            }
            if (!town.palms.containsKey(corner)) {
                throw new Fault(3, now().at);
            }
            k++;
        }

        static long limit(long x) {
            return x > 1000000 ? 1000000 : x < -1000000 ? -1000000 : x;
        }

        static long floor(long a, long b) {
            long q = (long) Math.floor((double) a / (double) b);
            return q;
        }

        Sum sum() throws Fault {
            Sum left = product();
            while (is("+") || is("-")) {
                boolean plus = is("+");
                k++;
                Sum a = left;
                Sum b = product();
                left = f -> limit(plus ? a.of(f) + b.of(f) : a.of(f) - b.of(f));
            }
            return left;
        }

        Sum product() throws Fault {
            Sum left = part();
            while (is("*") || is("/") || is("%")) {
                char sign = now().text.charAt(0);
                k++;
                Sum a = left;
                Sum b = part();
                left = f -> {
                    long x = a.of(f);
                    long y = b.of(f);
                    if (sign == '*') {
                        return limit(x * y);
                    }
                    if (y == 0) {
                        return 0;
                    }
                    return sign == '/' ? floor(x, y) : x - y * floor(x, y);
                };
            }
            return left;
        }

        void open(String text) throws Fault {
            if (!is(text)) {
                throw wrong();
            }
            if (open == 7) {
                throw new Fault(5, now().at);
            }
            open++;
            k++;
        }

        void shut(String text) throws Fault {
            pass(text);
            open--;
        }

        Sum part() throws Fault {
            if (now().isNumber()) {
                long n = number(0, 9999);
                return f -> n;
            }
            if (is("(")) {
                open("(");
                Sum s = sum();
                shut(")");
                return s;
            }
            if (is("min") || is("max")) {
                boolean least = is("min");
                k++;
                open("(");
                Sum a = sum();
                pass(",");
                Sum b = sum();
                shut(")");
                return f -> least ? Math.min(a.of(f), b.of(f)) : Math.max(a.of(f), b.of(f));
            }
            if (is("if")) {
                k++;
                open("(");
                Test t = test();
                pass(",");
                Sum a = sum();
                pass(",");
                Sum b = sum();
                shut(")");
                return f -> t.of(f) ? a.of(f) : b.of(f);
            }
            Sum fact = is("weigh") ? f -> f.weigh
                : is("held") ? f -> f.held
                : is("corner") ? f -> f.corner
                : is("minute") ? f -> f.minute
                : is("empty") && !inGone ? f -> f.empty
                : is("lasts") && inGone ? f -> f.lasts
                : null;
            if (fact == null) {
                throw wrong();
            }
            k++;
            return fact;
        }

        Test test() throws Fault {
            Test left = both();
            while (is("or")) {
                k++;
                Test a = left;
                Test b = both();
                left = f -> a.of(f) || b.of(f);
            }
            return left;
        }

        Test both() throws Fault {
            Test left = fact();
            while (is("and")) {
                k++;
                Test a = left;
                Test b = fact();
                left = f -> a.of(f) && b.of(f);
            }
            return left;
        }

        Test fact() throws Fault {
            if (is("not")) {
                open("not");
                Test t = fact();
                open--;
                return f -> !t.of(f);
            }
            if (is("[")) {
                open("[");
                Test t = test();
                shut("]");
                return t;
            }
            if (is("all")) {
                k++;
                return f -> true;
            }
            Sum a = sum();
            String sign = now().text;
            if (!sign.equals("<") && !sign.equals(">") && !sign.equals("=")) {
                throw wrong();
            }
            k++;
            Sum b = sum();
            return f -> sign.equals("<") ? a.of(f) < b.of(f) : sign.equals(">") ? a.of(f) > b.of(f) : a.of(f) == b.of(f);
        }
    }

    static final class State {
        int minute = 0;
        int[] thing = new int[0];
        int[] held = new int[0];
        boolean[] done = new boolean[0];
        List<Kept> kept = new ArrayList<>();

        State copy() {
            State s = new State();
            s.minute = minute;
            s.thing = thing.clone();
            s.held = held.clone();
            s.done = done.clone();
            s.kept = new ArrayList<>(kept);
            return s;
        }

        void put(int corner, int aThing) {
            thing[corner] = aThing;
            held[corner] = 0;
        }
    }

    private byte[] tape = new byte[0];
    private Town town = new Town();
    private State state = new State();
    private final List<State> acts = new ArrayList<>();
    private List<SeenRow> seen = new ArrayList<>();
    private byte[] image = new byte[0];
    private long seed = 1;
    private final int[] refused = new int[6];
    private int faultKind = 0;
    private int faultPlace = -1;

    private int no(int calls) {
        refused[calls]++;
        return -1;
    }

    private Facts facts(State s, int corner) {
        int t = s.thing[corner];
        Thing thing = t < 0 ? new Thing("", 0, 0) : town.things.get(t);
        return new Facts(thing.weigh, s.held[corner], corner, s.minute, t < 0 ? 1 : 0, thing.lasts);
    }

    private int hour(State s, int corner) {
        Facts f = facts(s, corner);
        long hour = town.says == null ? f.weigh : town.says.of(f);
        return (int) Math.max(0, Math.min(23, hour));
    }

    private int settle(State s) {
        int count = 0;
        for (int d = 0; d < s.done.length; d++) {
            Doing doing = town.doings.get(d);
            if (!s.done[d] && hour(s, doing.corner) == doing.hour) {
                s.done[d] = true;
                s.kept.add(new Kept(s.minute, d));
                count++;
            }
        }
        return count;
    }

    private void minute(State s) {
        s.minute++;
        for (int c = 0; c < s.thing.length; c++) {
            s.held[c] = Math.min(999, s.held[c] + 1);
            if (s.thing[c] >= 0) {
                Facts f = facts(s, c);
                if (town.gone == null ? f.held >= f.lasts : town.gone.of(f)) {
                    s.put(c, -1);
                }
            }
        }
    }

    private State ahead(int n) {
        State s = state.copy();
        for (int k = 0; k < n; k++) {
            minute(s);
        }
        return s;
    }

    private int last(int most) {
        return Math.min(most, 9999 - state.minute);
    }

    private boolean isCorner(int c) {
        return c >= 0 && c < town.corners.size();
    }

    private boolean isThing(int t) {
        return t >= 0 && t < town.things.size();
    }

    private boolean isDoing(int d) {
        return d >= 0 && d < town.doings.size();
    }

    int feed(int a, int b, int c, int d, int e) {
        if (tape.length + 20 > 1600) {
            return no(0);
        }
        int from = tape.length;
        tape = Arrays.copyOf(tape, from + 20);
        int[] five = {a, b, c, d, e};
        for (int k = 0; k < 20; k++) {
            tape[from + k] = (byte) (five[k / 4] >>> (8 * (3 - k % 4)));
        }
        return tape.length;
    }

    int end(int n) {
        if (n < 0 || n > tape.length) {
            no(0);
            return 0;
        }
        tape = Arrays.copyOf(tape, n);
        return 1;
    }

    int town() {
        byte[] text = tape;
        tape = new byte[0];
        try {
            town = new Parser(text).parse();
            faultKind = 0;
            faultPlace = -1;
        } catch (Fault fault) {
            faultKind = fault.kind;
            faultPlace = fault.place;
            return no(1);
        }
        state = new State();
        state.thing = new int[town.corners.size()];
        state.held = new int[town.corners.size()];
        state.done = new boolean[town.doings.size()];
        for (int c = 0; c < state.thing.length; c++) {
            state.thing[c] = town.palms.getOrDefault(c, -1);
        }
        settle(state);
        acts.clear();
        seen = new ArrayList<>();
        return town.statements;
    }

    int fault(int what) {
        return what == 0 ? faultKind : what == 1 ? faultPlace : -1;
    }

    int has(int what) {
        int done = 0;
        for (boolean d : state.done) {
            done += d ? 1 : 0;
        }
        int empty = 0;
        for (int t : state.thing) {
            empty += t < 0 ? 1 : 0;
        }
        int[] all = {town.things.size(), town.corners.size(), town.roads.size(), town.doings.size(), state.minute,
            done, empty, Math.min(40, state.kept.size()), seen.size(), acts.size(), (int) seed};
        return what >= 0 && what < all.length ? all[what] : -1;
    }

    int letter(int kind, int which, int k) {
        List<String> names = new ArrayList<>();
        if (kind == 0) {
            town.things.forEach(t -> names.add(t.name));
        } else if (kind == 1) {
            names.addAll(town.corners);
        } else if (kind == 2) {
            town.doings.forEach(d -> names.add(d.name));
        }
        if (which < 0 || which >= names.size() || k < 0 || k > 5) {
            return -1;
        }
        return k < names.get(which).length() ? names.get(which).charAt(k) - 'a' + 1 : 0;
    }

    int thing(int t, int what) {
        return !isThing(t) ? -1 : what == 0 ? town.things.get(t).weigh : what == 1 ? town.things.get(t).lasts : -1;
    }

    int corner(int c, int what) {
        return !isCorner(c) ? -1 : what == 0 ? state.thing[c] : what == 1 ? state.held[c] : what == 2 ? hour(state, c) : -1;
    }

    int doing(int d, int what) {
        if (!isDoing(d)) {
            return -1;
        }
        Doing doing = town.doings.get(d);
        return what == 0 ? doing.corner : what == 1 ? doing.hour : what == 2 ? (state.done[d] ? 1 : 0) : -1;
    }

    int later(int c, int n) {
        return isCorner(c) && n >= 0 && n <= last(60) ? hour(ahead(n), c) : -1;
    }

    int when(int d) {
        if (!isDoing(d)) {
            return -1;
        }
        State s = state.copy();
        for (int k = 0; k <= last(60); k++) {
            if (k > 0) {
                minute(s);
                settle(s);
            }
            if (s.done[d]) {
                return k;
            }
        }
        return -1;
    }

    int alike(int one, int other) {
        if (!isCorner(one) || !isCorner(other) || one == other) {
            return -1;
        }
        for (int k = 0; k <= last(60); k++) {
            State s = ahead(k);
            if (hour(s, one) == hour(s, other)) {
                return k;
            }
        }
        return -1;
    }

    private boolean doesAll(int[] row, int doings, int n) {
        State s = state.copy();
        boolean given = false;
        for (int c = 0; c < row.length; c++) {
            if (row[c] >= 0) {
                s.put(c, row[c]);
                given = true;
            }
        }
        if (given) {
            settle(s);
        }
        for (int k = 0; k < n; k++) {
            minute(s);
            settle(s);
        }
        for (int d = 0; d < s.done.length; d++) {
            if ((doings >> d & 1) == 1 && !s.done[d]) {
                return false;
            }
        }
        return true;
    }

    int plan(int doings, int n, int corner) {
        if (doings < 0 || doings >> town.doings.size() != 0 || n < 0 || n > last(20)) {
            return -1;
        }
        if (corner != -1 && !isCorner(corner)) {
            return -1;
        }
        int corners = town.corners.size();
        int choices = town.things.size() + 1;
        int rows = 1;
        for (int c = 0; c < corners; c++) {
            rows *= choices;
        }
        for (int count = 0; count <= corners; count++) {
            for (int number = 0; number < rows; number++) {
                int[] row = new int[corners];
                int rest = number;
                int given = 0;
                for (int c = corners - 1; c >= 0; c--) {
                    row[c] = rest % choices - 1;
                    rest /= choices;
                    given += row[c] >= 0 ? 1 : 0;
                }
                if (given == count && doesAll(row, doings, n)) {
                    return corner == -1 ? count : row[corner];
                }
            }
        }
        return -1;
    }

    int evening(int corner, int what) {
        if (!isCorner(corner) || town.things.isEmpty() || what < 0 || what > 1) {
            return -1;
        }
        int best = -1;
        int longest = -1;
        for (int t = 0; t < town.things.size(); t++) {
            State s = state.copy();
            s.put(corner, t);
            int first = hour(s, corner);
            int stays = 0;
            for (int k = 1; k <= last(60); k++) {
                minute(s);
                if (hour(s, corner) != first) {
                    break;
                }
                stays = k;
            }
            if (stays > longest) {
                longest = stays;
                best = t;
            }
        }
        return what == 0 ? best : longest;
    }

    private long countRows(State from, int corner, int hour, int n) {
        if (n == 0) {
            return hour == -1 || hour(from, corner) == hour ? 1 : 0;
        }
        long rows = 0;
        State s = from.copy();
        minute(s);
        for (int c = 0; c < town.corners.size(); c++) {
            for (int t = 0; t < town.things.size(); t++) {
                State given = s.copy();
                given.put(c, t);
                long with = countRows(given, corner, hour, n - 1);
                long without = countRows(s, corner, hour, n - 1);
                for (int number = 0; number < 100; number++) {
                    rows += number < town.pass ? with : without;
                }
            }
        }
        return rows;
    }

    long odds(int corner, int hour, int n) {
        if (!isCorner(corner) || hour < -1 || hour > 23 || n < 1 || n > 2 || n > last(60) || town.things.isEmpty()) {
            return -1;
        }
        return countRows(state, corner, hour, n);
    }

    private int walk(int at, int to, boolean[] been, int gone) {
        if (at == to) {
            return gone;
        }
        int best = -1;
        been[at] = true;
        for (Road r : town.roads) {
            int next = r.from == at ? r.to : r.to == at ? r.from : -1;
            if (next >= 0 && !been[next]) {
                int steps = walk(next, to, been, gone + r.steps);
                best = best < 0 || steps >= 0 && steps < best ? steps : best;
            }
        }
        been[at] = false;
        return best;
    }

    int way(int from, int to) {
        return isCorner(from) && isCorner(to) ? walk(from, to, new boolean[5], 0) : -1;
    }

    int arrive(int from, int to) {
        int steps = way(from, to);
        return steps < 0 || steps > last(60) ? -1 : hour(ahead(steps), to);
    }

    int early(int corner) {
        if (!isCorner(corner)) {
            return -1;
        }
        List<List<Integer>> at = new ArrayList<>();
        for (int k = 0; k <= 60; k++) {
            at.add(new ArrayList<>());
        }
        at.get(0).add(corner);
        for (int k = 0; k <= last(60); k++) {
            if (k > 0 && at.get(k).contains(corner) && hour(ahead(k), corner) < hour(state, corner)) {
                return k;
            }
            for (Road r : town.roads) {
                if (k + r.steps <= 60 && at.get(k).contains(r.from)) {
                    at.get(k + r.steps).add(r.to);
                }
                if (k + r.steps <= 60 && at.get(k).contains(r.to)) {
                    at.get(k + r.steps).add(r.from);
                }
            }
        }
        return -1;
    }

    int see() {
        byte[] rows = tape;
        tape = new byte[0];
        if (rows.length == 0 || rows.length % 3 != 0 || rows.length > 48) {
            return no(5);
        }
        List<SeenRow> list = new ArrayList<>();
        for (int k = 0; k < rows.length; k += 3) {
            SeenRow row = new SeenRow(rows[k] & 255, rows[k + 1] & 255, rows[k + 2] & 255);
            if (row.ahead > 40 || !isCorner(row.corner) || row.hour > 23) {
                return no(5);
            }
            list.add(row);
        }
        seen = list;
        return list.size();
    }

    private State with(int corner, int thing, int n) {
        State s = state.copy();
        s.put(corner, thing);
        for (int k = 0; k < n; k++) {
            minute(s);
        }
        return s;
    }

    int held(int corner) {
        if (!isCorner(corner)) {
            return -1;
        }
        int bits = 0;
        for (int t = -1; t < town.things.size(); t++) {
            boolean so = true;
            for (SeenRow row : seen) {
                so &= row.ahead <= last(40) && hour(with(corner, t, row.ahead), row.corner) == row.hour;
            }
            bits |= so ? 1 << (t + 1) : 0;
        }
        return bits;
    }

    int tells(int corner, int what) {
        int bits = held(corner);
        if (bits <= 0 || what < 0 || what > 1) {
            return -1;
        }
        int best = -1;
        int fewest = 99;
        for (int k = 0; k <= last(40); k++) {
            int[] left = new int[24];
            int most = 0;
            for (int t = -1; t < town.things.size(); t++) {
                if ((bits >> (t + 1) & 1) == 1) {
                    int hour = hour(with(corner, t, k), corner);
                    left[hour]++;
                    most = Math.max(most, left[hour]);
                }
            }
            if (most < fewest) {
                fewest = most;
                best = k;
            }
        }
        return what == 0 ? best : fewest;
    }

    private void act() {
        acts.add(state.copy());
        if (acts.size() > 20) {
            acts.remove(0);
        }
    }

    int minutes(int n) {
        if (n < 1 || n > 100 || n > last(100)) {
            return no(2);
        }
        act();
        int count = 0;
        for (int k = 0; k < n; k++) {
            minute(state);
            count += settle(state);
        }
        return count;
    }

    private int draw(int m) {
        seed = (1103515245L * seed + 12345L) % (1L << 31);
        return (int) (seed / 64 % m);
    }

    int chance(int n) {
        if (n < 1 || n > 100 || n > last(100)) {
            return no(2);
        }
        act();
        int count = 0;
        for (int k = 0; k < n; k++) {
            minute(state);
            int number = draw(100);
            if (number < town.pass && !town.corners.isEmpty() && !town.things.isEmpty()) {
                int c = draw(town.corners.size());
                int t = draw(town.things.size());
                state.put(c, t);
                count++;
            }
            settle(state);
        }
        return count;
    }

    int give(int corner, int thing) {
        if (!isCorner(corner) || !isThing(thing)) {
            return no(3);
        }
        act();
        state.put(corner, thing);
        settle(state);
        return hour(state, corner);
    }

    int take(int corner) {
        if (!isCorner(corner) || state.thing[corner] < 0) {
            return no(3);
        }
        act();
        state.put(corner, -1);
        settle(state);
        return hour(state, corner);
    }

    int undo() {
        if (acts.isEmpty()) {
            no(4);
            return 0;
        }
        state = acts.remove(acts.size() - 1);
        return 1;
    }

    int seed(int x) {
        if (x < 0) {
            no(5);
            return 0;
        }
        seed = x;
        return 1;
    }

    int kept(int k, int what) {
        int told = Math.min(40, state.kept.size());
        if (k < 0 || k >= told || what < 0 || what > 1) {
            return -1;
        }
        Kept row = state.kept.get(state.kept.size() - told + k);
        return what == 0 ? row.minute : row.doing;
    }

    private static int check(byte[] bytes, int n) {
        int c = 227;
        for (int k = 0; k < n; k++) {
            c = (5 * c + (bytes[k] & 255)) % 251;
        }
        return c;
    }

    int image() {
        int corners = state.thing.length;
        image = new byte[2 + 3 * corners + state.done.length + 1];
        image[0] = (byte) (state.minute / 256);
        image[1] = (byte) (state.minute % 256);
        for (int c = 0; c < corners; c++) {
            image[2 + 3 * c] = (byte) (state.thing[c] < 0 ? 255 : state.thing[c]);
            image[3 + 3 * c] = (byte) (state.held[c] / 256);
            image[4 + 3 * c] = (byte) (state.held[c] % 256);
        }
        for (int d = 0; d < state.done.length; d++) {
            image[2 + 3 * corners + d] = (byte) (state.done[d] ? 1 : 0);
        }
        image[image.length - 1] = (byte) check(image, image.length - 1);
        return image.length;
    }

    int octet(int k) {
        return k >= 0 && k < image.length ? image[k] & 255 : -1;
    }

    int on() {
        byte[] b = tape;
        tape = new byte[0];
        int corners = state.thing.length;
        boolean good = b.length == 2 + 3 * corners + state.done.length + 1;
        good = good && (b[0] & 255) * 256 + (b[1] & 255) <= 9999;
        good = good && (b[b.length - 1] & 255) == check(b, b.length - 1);
        for (int c = 0; good && c < corners; c++) {
            int t = b[2 + 3 * c] & 255;
            good = (t == 255 || isThing(t)) && (b[3 + 3 * c] & 255) * 256 + (b[4 + 3 * c] & 255) <= 999;
        }
        for (int d = 0; good && d < state.done.length; d++) {
            good = (b[2 + 3 * corners + d] & 255) <= 1;
        }
        if (!good) {
            no(5);
            return 0;
        }
        state.minute = (b[0] & 255) * 256 + (b[1] & 255);
        for (int c = 0; c < corners; c++) {
            state.thing[c] = b[2 + 3 * c] == -1 ? -1 : b[2 + 3 * c];
            state.held[c] = (b[3 + 3 * c] & 255) * 256 + (b[4 + 3 * c] & 255);
        }
        for (int d = 0; d < state.done.length; d++) {
            state.done[d] = b[2 + 3 * corners + d] == 1;
        }
        state.kept.clear();
        acts.clear();
        return 1;
    }

    int status(int what) {
        return what >= 0 && what < 6 ? refused[what] : -1;
    }
}
