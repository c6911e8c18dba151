import java.util.ArrayList;
import java.util.List;
import java.util.Random;

/** Random runs of calls, each answer held against the Oracle's. */
public final class RandomRunsTest {
    private static final String[] SPARE = {"thing", "weigh", "lasts", "corner", "road", "to", "steps", "palm", "has",
        "doing", "at", "hour", "says", "gone", "pass", "held", "minute", "empty", "if", "or", "and", "not", "all",
        "min", "max", "zz", "longest", "sixsix", "12345", "9999", "100", "0", "24", "1", ";", "(", ")", "[", "]",
        ",", "+", "-", "*", "/", "%", "<", ">", "=", "#", "A", "\t", "\u00e9"};
    private static final String[] DEEP = {"((((", "(((((((", "((((((((", "[[[", "[[[[[[[", "not not not ", "not not not not not not not ",
        "min(1,max(2,(", "if(not not all,((((", "if([[all]],1,(((", "+(((((((1)))))))+"};

    private final Random random;
    private final PalmHours x = new PalmHours();
    private final Oracle o = new Oracle();
    private final StringBuilder log = new StringBuilder();
    private byte[] pastImage = new byte[0];

    private RandomRunsTest(long seed) {
        random = new Random(seed);
    }

    private int below(int n) {
        return random.nextInt(n);
    }

    private boolean oneIn(int n) {
        return below(n) == 0;
    }

    private String number(int least, int most) {
        if (oneIn(60)) {
            return String.valueOf(most + 1);
        }
        if (oneIn(10)) {
            return oneIn(2) ? String.valueOf(least) : String.valueOf(most);
        }
        int n = least + below(most - least + 1);
        return oneIn(20) ? "0" + n : String.valueOf(n);
    }

    private String sum(int depth, boolean gone) {
        StringBuilder s = new StringBuilder(product(depth, gone));
        while (oneIn(3)) {
            s.append(oneIn(2) ? "+" : " - ").append(product(depth, gone));
        }
        return s.toString();
    }

    private String product(int depth, boolean gone) {
        StringBuilder s = new StringBuilder(part(depth, gone));
        while (oneIn(4)) {
            s.append("*/%".charAt(below(3))).append(part(depth, gone));
        }
        return s.toString();
    }

    private String part(int depth, boolean gone) {
        if (depth > 0 && oneIn(4)) {
            switch (below(4)) {
                case 0: return "(" + sum(depth - 1, gone) + ")";
                case 1: return "min(" + sum(depth - 1, gone) + "," + sum(depth - 1, gone) + ")";
                case 2: return "max (" + sum(depth - 1, gone) + " , " + sum(depth - 1, gone) + ")";
                default: return "if(" + test(depth - 1, gone) + "," + sum(depth - 1, gone) + "," + sum(depth - 1, gone) + ")";
            }
        }
        switch (below(8)) {
            case 0: return "weigh";
            case 1: return "held";
            case 2: return "corner";
            case 3: return "minute";
            case 4: return gone ? "lasts" : "empty";
            case 5: return oneIn(4) ? String.valueOf(below(10000)) : String.valueOf(below(24));
            default: return oneIn(2) ? "weigh" : String.valueOf(below(9));
        }
    }

    private String test(int depth, boolean gone) {
        StringBuilder s = new StringBuilder(fact(depth, gone));
        while (oneIn(4)) {
            s.append(oneIn(2) ? " or " : " and ").append(fact(depth, gone));
        }
        return s.toString();
    }

    private String fact(int depth, boolean gone) {
        if (depth > 0 && oneIn(3)) {
            return oneIn(2) ? "not " + fact(depth - 1, gone) : "[" + test(depth - 1, gone) + "]";
        }
        if (oneIn(15)) {
            return "all";
        }
        return sum(Math.max(0, depth - 1), gone) + "<>=".charAt(below(3)) + sum(Math.max(0, depth - 1), gone);
    }

    private String name(String sort, int k) {
        return sort + (char) ('a' + k);
    }

    private String townText() {
        List<String> rows = new ArrayList<>();
        int things = below(7);
        int corners = oneIn(8) ? below(2) : 1 + below(5);
        for (int k = 0; k < things; k++) {
            rows.add("thing " + name("t", k) + " weigh " + (oneIn(2) ? number(0, 23) : number(0, 99)) + " lasts " + (oneIn(2) ? number(1, 12) : number(1, 99)));
        }
        for (int k = 0; k < corners; k++) {
            rows.add("corner " + name("c", k));
        }
        for (int a = 0; a < corners; a++) {
            for (int b = a + 1; b < corners; b++) {
                if (!oneIn(3)) {
                    boolean swap = oneIn(2);
                    rows.add("road " + name("c", swap ? b : a) + " to " + name("c", swap ? a : b) + " steps " + number(1, oneIn(2) ? 8 : 30));
                }
            }
        }
        for (int k = 0; k < corners; k++) {
            if (things > 0 && !oneIn(3)) {
                rows.add("palm " + name("c", k) + " has " + name("t", below(things)));
            }
        }
        for (int k = below(7); k > 0 && corners > 0; k--) {
            rows.add("doing " + name("d", k) + " at " + name("c", below(corners)) + " hour " + number(0, 23));
        }
        if (!oneIn(4)) {
            rows.add("says " + (oneIn(2) ? "(" + sum(6, false) + ")%24" : sum(3, false)));
        }
        if (!oneIn(3)) {
            rows.add("gone " + test(oneIn(5) ? 7 : 3, true));
        }
        if (!oneIn(4)) {
            rows.add("pass " + number(0, 100));
        }
        StringBuilder s = new StringBuilder();
        for (String row : rows) {
            s.append(row).append(oneIn(6) ? " ;\n" : ";");
        }
        return s.toString();
    }

    private String spoilt(String text) {
        StringBuilder s = new StringBuilder(text);
        for (int k = 1 + below(2); k > 0; k--) {
            int at = below(s.length() + 1);
            switch (below(8)) {
                case 0: s.setLength(at); break;
                case 6: insertDeep(s); break;
                case 7: s.insert(s.indexOf(";", at) + 1, "pass 1;".repeat(50 + below(31))); break;
                case 1: s.insert(at, SPARE[below(SPARE.length)]); break;
                case 2: s.insert(at, " " + SPARE[below(SPARE.length)] + " "); break;
                case 3: if (at < s.length()) { s.deleteCharAt(at); } break;
                case 4: if (at < s.length()) { s.setCharAt(at, (char) below(256)); } break;
                default:
                    int semi = s.indexOf(";", at);
                    int next = semi < 0 ? -1 : s.indexOf(";", semi + 1);
                    if (next > 0) {
                        String row = s.substring(semi + 1, next + 1);
                        s.insert(next + 1, oneIn(2) ? row : row + row);
                    }
                    break;
            }
        }
        return s.toString();
    }

    private void insertDeep(StringBuilder s) {
        int word = s.indexOf(oneIn(2) ? "says " : "gone ");
        if (word >= 0) {
            s.insert(word + 5, DEEP[below(DEEP.length)] + (oneIn(3) ? DEEP[below(DEEP.length)] : ""));
        }
    }

    private void due(String call, long got, long want) {
        log.append(call).append(" = ").append(want).append('\n');
        Check.due(call, got, want);
        if (got != want) {
            System.out.println(log);
            throw new IllegalStateException("an answer is not the Oracle's");
        }
    }

    private void tape(byte[] bytes) {
        if (oneIn(10)) {
            due("end(" + 0 + ")", x.end(0) ? 1 : 0, o.end(0));
        } else {
            x.end(0);
            o.end(0);
        }
        for (int[] r : Check.feeds(bytes)) {
            due("feed", x.feed(r[0], r[1], r[2], r[3], r[4]), o.feed(r[0], r[1], r[2], r[3], r[4]));
        }
        due("end(" + bytes.length + ")", x.end(bytes.length) ? 1 : 0, o.end(bytes.length));
    }

    private void tellTown() {
        String text = townText();
        if (oneIn(3)) {
            text = spoilt(text);
        }
        log.append("text: ").append(text).append('\n');
        tape(Check.text(text));
        due("town()", x.town(), o.town());
        due("fault(0)", x.fault(0), o.fault(0));
        due("fault(1)", x.fault(1), o.fault(1));
    }

    private void tellImage() {
        byte[] bytes;
        if (oneIn(2) && pastImage.length > 0) {
            bytes = pastImage.clone();
        } else {
            bytes = new byte[x.image()];
            o.image();
            for (int k = 0; k < bytes.length; k++) {
                bytes[k] = (byte) x.octet(k);
            }
        }
        for (int k = below(4); k > 0; k--) {
            int at = below(bytes.length);
            bytes[at] = (byte) (oneIn(3) ? below(256) : oneIn(2) ? below(7) : 3);
        }
        if (oneIn(6) && bytes.length > 2) {
            int minute = 9999 - below(70);
            bytes[0] = (byte) (minute >> 8);
            bytes[1] = (byte) minute;
        }
        if (!oneIn(5)) {
            int c = 227;
            for (int k = 0; k < bytes.length - 1; k++) {
                c = (5 * c + (bytes[k] & 255)) % 251;
            }
            bytes[bytes.length - 1] = (byte) c;
        }
        if (oneIn(12)) {
            bytes = java.util.Arrays.copyOf(bytes, Math.max(0, bytes.length + below(3) - 1));
        }
        tape(bytes);
        due("on()", x.on() ? 1 : 0, o.on());
    }

    private void tellSeen() {
        int rows = oneIn(10) ? below(19) : 1 + below(3);
        byte[] bytes = new byte[oneIn(15) ? 3 * rows + 1 : 3 * rows];
        for (int k = 0; k + 2 < bytes.length; k += 3) {
            int ahead = oneIn(20) ? below(256) : below(41);
            int corner = oneIn(20) ? below(256) : below(Math.max(1, o.has(1)));
            int hour = o.later(corner, ahead);
            bytes[k] = (byte) ahead;
            bytes[k + 1] = (byte) corner;
            bytes[k + 2] = (byte) (hour < 0 || oneIn(6) ? below(26) : hour);
        }
        tape(bytes);
        due("see()", x.see(), o.see());
    }

    private int corner() {
        return oneIn(12) ? below(9) - 2 : below(Math.max(1, o.has(1)));
    }

    private int thing() {
        return oneIn(12) ? below(9) - 2 : below(Math.max(1, o.has(0)));
    }

    private int doing() {
        return oneIn(12) ? below(9) - 2 : below(Math.max(1, o.has(3)));
    }

    private int odd(int most) {
        return oneIn(25) ? random.nextInt() : below(most + 3) - 1;
    }

    private void ask() {
        int a = corner();
        int b = corner();
        int n = odd(60);
        int w = odd(3);
        switch (below(22)) {
            case 0: due("later(" + a + "," + n + ")", x.later(a, n), o.later(a, n)); break;
            case 1: { int d = doing(); due("when(" + d + ")", x.when(d), o.when(d)); break; }
            case 2: due("alike(" + a + "," + b + ")", x.alike(a, b), o.alike(a, b)); break;
            case 3: askPlan(); break;
            case 4: due("evening(" + a + "," + w + ")", x.evening(a, w), o.evening(a, w)); break;
            case 5: { int h = odd(24); int m = odd(2); due("odds(" + a + "," + h + "," + m + ")", x.odds(a, h, m), o.odds(a, h, m)); break; }
            case 6: due("way(" + a + "," + b + ")", x.way(a, b), o.way(a, b)); break;
            case 7: due("arrive(" + a + "," + b + ")", x.arrive(a, b), o.arrive(a, b)); break;
            case 8: due("early(" + a + ")", x.early(a), o.early(a)); break;
            case 9: due("held(" + a + ")", x.held(a), o.held(a)); break;
            case 10: due("tells(" + a + "," + w + ")", x.tells(a, w), o.tells(a, w)); break;
            case 11: due("corner(" + a + "," + w + ")", x.corner(a, w), o.corner(a, w)); break;
            case 12: { int t = thing(); due("thing(" + t + "," + w + ")", x.thing(t, w), o.thing(t, w)); break; }
            case 13: { int d = doing(); due("doing(" + d + "," + w + ")", x.doing(d, w), o.doing(d, w)); break; }
            case 14: { int h = odd(11); due("has(" + h + ")", x.has(h), o.has(h)); break; }
            case 15: { int k = odd(6); due("kept(" + k + "," + w + ")", x.kept(k, w), o.kept(k, w)); break; }
            case 16: { int k = odd(6); due("letter(" + w + "," + a + "," + k + ")", x.letter(w, a, k), o.letter(w, a, k)); break; }
            case 17: due("status(" + w + ")", x.status(w + 2), o.status(w + 2)); break;
            case 18: { int k = odd(25); due("octet(" + k + ")", x.octet(k), o.octet(k)); break; }
            case 19: due("fault(" + w + ")", x.fault(w), o.fault(w)); break;
            case 20: { int m = odd(1600); due("end(" + m + ")", x.end(m) ? 1 : 0, o.end(m)); break; }
            default: due("tells(" + a + ",0)", x.tells(a, 0), o.tells(a, 0)); break;
        }
    }

    private void askPlan() {
        int doings = oneIn(8) ? odd(64) : below(1 << Math.max(0, o.has(3)));
        int n = oneIn(3) ? odd(20) : below(4);
        int corner = oneIn(2) ? -1 : corner();
        if (o.has(0) * o.has(1) > 16) {
            n = Math.min(n, 3);
        }
        due("plan(" + doings + "," + n + "," + corner + ")", x.plan(doings, n, corner), o.plan(doings, n, corner));
    }

    private void act() {
        int a = corner();
        switch (below(10)) {
            case 0: { int n = oneIn(2) ? below(6) : odd(100); due("minutes(" + n + ")", x.minutes(n), o.minutes(n)); break; }
            case 1: { int n = oneIn(2) ? below(6) : odd(100); due("chance(" + n + ")", x.chance(n), o.chance(n)); break; }
            case 2: case 3: { int t = thing(); due("give(" + a + "," + t + ")", x.give(a, t), o.give(a, t)); break; }
            case 4: due("take(" + a + ")", x.take(a), o.take(a)); break;
            case 5: due("undo()", x.undo() ? 1 : 0, o.undo()); break;
            case 6: { int s = random.nextInt(); due("seed(" + s + ")", x.seed(s) ? 1 : 0, o.seed(s)); break; }
            case 7: tellSeen(); break;
            case 8: tellImage(); break;
            default:
                due("image()", x.image(), o.image());
                pastImage = new byte[x.image()];
                for (int k = 0; k < pastImage.length; k++) {
                    pastImage[k] = (byte) x.octet(k);
                    due("octet(" + k + ")", x.octet(k), o.octet(k));
                }
                break;
        }
    }

    private void lookAtAll() {
        for (int k = -1; k <= 11; k++) {
            due("has(" + k + ")", x.has(k), o.has(k));
        }
        for (int c = 0; c < o.has(1); c++) {
            for (int w = 0; w < 3; w++) {
                due("corner(" + c + "," + w + ")", x.corner(c, w), o.corner(c, w));
            }
        }
        for (int d = 0; d < o.has(3); d++) {
            due("doing(" + d + ",2)", x.doing(d, 2), o.doing(d, 2));
        }
        for (int k = 0; k < o.has(7); k++) {
            due("kept(" + k + ",0)", x.kept(k, 0), o.kept(k, 0));
            due("kept(" + k + ",1)", x.kept(k, 1), o.kept(k, 1));
        }
        for (int k = 0; k < 6; k++) {
            due("status(" + k + ")", x.status(k), o.status(k));
        }
    }

    private void run() {
        int rounds = 60;
        for (int k = 0; k < rounds; k++) {
            if (k == 0 || oneIn(25)) {
                tellTown();
            }
            if (oneIn(2)) {
                act();
            } else {
                ask();
            }
            if (oneIn(10)) {
                lookAtAll();
            }
        }
        lookAtAll();
    }

    public static void main(String[] args) {
        long from = args.length > 0 ? Long.parseLong(args[0]) : 1;
        long to = args.length > 1 ? Long.parseLong(args[1]) : 1500;
        for (long seed = from; seed <= to && Check.isGood(); seed++) {
            RandomRunsTest run = new RandomRunsTest(seed);
            try {
                run.run();
            } catch (RuntimeException e) {
                System.out.println("run " + seed + ": " + e);
                Check.due("a run without exceptions", 0, 1);
            }
        }
        Check.close();
    }
}
