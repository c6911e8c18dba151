import java.lang.reflect.Method;
import java.util.Arrays;
import java.util.TreeMap;

/**
 * What the tests of boundaries share. They hold a test of its own for each sentence of the document that names a
 * boundary: too small, too large, empty, full, a wrap-around, a refused call. A test's name begins with its promise,
 * or with "term" and the part of the Terms.
 */
class Boundaries {
    static final int NONE = PalmHours.NONE;
    static final int LEAST = Integer.MIN_VALUE;
    static final int MOST = Integer.MAX_VALUE;
    static final int[] FAR = {LEAST, LEAST + 1, -1000, 1000, MOST - 1, MOST};

    /** Two THINGS, three CORNERS, one palm that is empty, a DOING that is done at first and one that is open. */
    static final String SMALL = "thing plum weigh 12 lasts 3;thing stone weigh 5 lasts 99;corner ash;corner bay;corner cod;"
        + "road ash to bay steps 4;palm ash has plum;palm bay has stone;doing noon at ash hour 12;doing tea at cod hour 5;";

    /** As many of all as there can be: THINGS of 1 to 6, all CORNERS one step apart, a DOING for each THING's HOUR. */
    static final String FULL = full();

    private static String test = "";

    /** Runs every test of a class, so that none is left out of a list. */
    static void runAll(Class<?> tests) throws ReflectiveOperationException {
        TreeMap<String, Method> found = new TreeMap<>();
        for (Method m : tests.getDeclaredMethods()) {
            if (m.getName().startsWith("term") || m.getName().startsWith("promise")) {
                found.put(m.getName(), m);
            }
        }
        for (Method m : found.values()) {
            test = m.getName();
            m.invoke(null);
        }
        System.out.println(found.size() + " boundaries");
        Check.close();
    }

    static void due(String call, long got, long want) {
        Check.due(test + ": " + call, got, want);
    }

    static void due(String call, boolean got, boolean want) {
        Check.due(test + ": " + call, got, want);
    }

    /** A text that is a TOWN of so many STATEMENTS. */
    static PalmHours good(int statements, String text) {
        PalmHours x = new PalmHours();
        due("town " + text, Check.town(x, text), statements);
        due("fault(0) of " + text, x.fault(0), 0);
        due("fault(1) of " + text, x.fault(1), NONE);
        return x;
    }

    static PalmHours made(String text) {
        return Check.made(text);
    }

    /** A text with an at-sign where its FAULT is; the TOWN that was told ahead of it stays. */
    static void fault(int kind, String marked) {
        PalmHours x = made(SMALL);
        String ahead = all(x);
        String text = marked.replace("@", "");
        due("town " + text, Check.town(x, text), NONE);
        due("fault(0) of " + text, x.fault(0), kind);
        due("fault(1) of " + text, x.fault(1), marked.indexOf('@'));
        due("refused", x.status(1), 1);
        due("all stays", all(x).equals(ahead), true);
    }

    /** All that can be asked of what is so, but for the tape, the FAULT and what was refused. */
    static String all(PalmHours x) {
        StringBuilder s = new StringBuilder();
        for (int what = 0; what <= 10; what++) {
            s.append(x.has(what)).append(' ');
        }
        for (int which = 0; which < 6; which++) {
            for (int what = 0; what < 3; what++) {
                s.append(x.corner(which, what)).append(' ').append(x.doing(which, what)).append(' ');
                s.append(x.thing(which, what)).append(' ').append(x.kept(which, what)).append(' ');
                s.append(x.letter(what, which, 0)).append(' ');
            }
            s.append(x.held(which)).append(' ').append(x.way(0, which)).append(' ').append(x.later(which, 7)).append(' ');
        }
        for (int k = 0; k < 24; k++) {
            s.append(x.octet(k)).append(' ');
        }
        return s.toString();
    }

    static String refusals(PalmHours x) {
        StringBuilder s = new StringBuilder();
        for (int what = 0; what < 6; what++) {
            s.append(x.status(what)).append(' ');
        }
        return s.toString();
    }

    static int check(int... bytes) {
        int c = 227;
        for (int b : bytes) {
            c = (5 * c + b) % 251;
        }
        return c;
    }

    /** An image with its last byte. */
    static byte[] image(int... ahead) {
        int[] bytes = Arrays.copyOf(ahead, ahead.length + 1);
        bytes[ahead.length] = check(ahead);
        return Check.bytes(bytes);
    }

    static boolean on(PalmHours x, byte[] bytes) {
        Check.put(x, bytes);
        return x.on();
    }

    static int see(PalmHours x, int... rows) {
        Check.put(x, Check.bytes(rows));
        return x.see();
    }

    /** A TOWN of one CORNER without DOINGS, its palm empty since a while, at a MINUTE. */
    static PalmHours at(int minute, String text) {
        PalmHours x = made(text);
        due("on()", on(x, image(minute >> 8, minute & 255, 255, 0, 0)), true);
        return x;
    }

    static int sum(String sum) {
        return made("corner c;says " + sum + ";").corner(0, 2);
    }

    static void holds(String test, boolean want) {
        due(test, sum("if(" + test + ",1,0)"), want ? 1 : 0);
    }

    static String many(String first, char from, char to, String rest) {
        StringBuilder s = new StringBuilder();
        for (char c = from; c <= to; c++) {
            s.append(first).append(c).append(rest);
        }
        return s.toString();
    }

    private static String full() {
        StringBuilder s = new StringBuilder(many("corner c", 'a', 'e', ";")).append(allRoads());
        for (char c = 'a'; c <= 'f'; c++) {
            int number = c - 'a' + 1;
            s.append("thing t").append(c).append(" weigh ").append(number).append(" lasts 9;");
            s.append("doing d").append(c).append(" at c").append(c == 'f' ? 'e' : c).append(" hour ").append(number).append(';');
        }
        return s.append("palm ce has ta;pass 100;").toString();
    }

    static String allRoads() {
        StringBuilder s = new StringBuilder();
        for (char a = 'a'; a <= 'e'; a++) {
            for (char b = (char) (a + 1); b <= 'e'; b++) {
                s.append("road c").append(a).append(" to c").append(b).append(" steps 1;");
            }
        }
        return s.toString();
    }

    static PalmHours fed(int times) {
        PalmHours x = new PalmHours();
        for (int k = 1; k <= times; k++) {
            due("feed " + k, x.feed(0x20202020, 0x20202020, 0x20202020, 0x20202020, 0x20202020), 20 * k);
        }
        return x;
    }

    /** Something of all that a TOWN has to forget. */
    static PalmHours busy() {
        PalmHours x = made(SMALL + "pass 50;");
        x.chance(3);
        x.give(2, 1);
        see(x, 0, 0, 0);
        x.image();
        return x;
    }
}
