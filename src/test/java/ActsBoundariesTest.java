import java.util.Arrays;

/** Boundaries of MINUTES, HOURS, DRAWS (the Terms, II) and of promises 23 to 33. */
public final class ActsBoundariesTest extends Boundaries {
    private ActsBoundariesTest() {
    }

    public static void main(String[] args) throws ReflectiveOperationException {
        runAll(ActsBoundariesTest.class);
    }

    // ---- II. MINUTES, HOURS, DRAWS

    static void term2MinuteZeroAtFirst() {
        PalmHours x = made(SMALL);
        due("MINUTE", x.has(4), 0);
        for (int corner = 0; corner < 3; corner++) {
            due("held, or empty, since then", x.corner(corner, 1), 0);
        }
        due("empty without", x.corner(2, 0), NONE);
    }

    static void term2AnHourBelow0() {
        due("-1", sum("0-1"), 0);
        due("-1000000", sum("0-1000*1000"), 0);
        due("0", sum("0"), 0);
        due("1", sum("1"), 1);
    }

    static void term2AnHourAbove23() {
        due("22", sum("22"), 22);
        due("23", sum("23"), 23);
        due("24", sum("24"), 23);
        due("1000000", sum("1000*1000"), 23);
    }

    static void term2AnHourWithoutSays() {
        PalmHours x = made("thing a weigh 23 lasts 9;thing b weigh 24 lasts 9;thing e weigh 99 lasts 9;thing f weigh 0 lasts 9;corner c;");
        due("empty", x.corner(0, 2), 0);
        due("23", x.give(0, 0), 23);
        due("24", x.give(0, 1), 23);
        due("99", x.give(0, 2), 23);
        due("0", x.give(0, 3), 0);
    }

    static void term2WeighIs0WithoutAThing() {
        due("weigh", sum("weigh+7"), 7);
        due("empty", sum("empty+7"), 8);
    }

    static void term2Held999AtMost() {
        PalmHours x = made("thing a weigh 1 lasts 1;corner c;gone minute>9000;");
        due("on()", on(x, image(0, 0, 0, 3, 230)), true);
        due("998", x.corner(0, 1), 998);
        x.minutes(1);
        due("999", x.corner(0, 1), 999);
        x.minutes(1);
        due("999 at most", x.corner(0, 1), 999);
        x.chance(1);
        due("999 at most by the seed", x.corner(0, 1), 999);
        due("ahead, too", x.later(0, 60), 1);
    }

    static void term2Empty999AtMost() {
        PalmHours x = made("corner c;says held-980;");
        due("on()", on(x, image(0, 0, 255, 3, 230)), true);
        due("998", x.corner(0, 2), 18);
        due("ahead", x.later(0, 1), 19);
        due("999 at most ahead", x.later(0, 2), 19);
        x.minutes(100);
        due("999 at most", x.corner(0, 1), 999);
    }

    static void term2HeldAsLongAsItLasts() {
        PalmHours x = made("thing a weigh 7 lasts 3;corner c;palm c has a;");
        x.minutes(2);
        due("not yet", x.corner(0, 0), 0);
        due("held", x.corner(0, 1), 2);
        x.minutes(1);
        due("gone", x.corner(0, 0), NONE);
        due("empty since now", x.corner(0, 1), 0);
    }

    static void term2HeldLongerThanItLasts() {
        PalmHours x = made("thing a weigh 7 lasts 3;corner c;");
        due("on()", on(x, image(0, 0, 0, 0, 9)), true);
        due("it is there", x.corner(0, 0), 0);
        x.minutes(1);
        due("gone", x.corner(0, 0), NONE);
        due("empty since now", x.corner(0, 1), 0);
    }

    static void term2LastsOneMinute() {
        PalmHours x = made("thing a weigh 7 lasts 1;corner c;palm c has a;");
        due("now", x.later(0, 0), 7);
        due("gone behind one", x.later(0, 1), 0);
    }

    static void term2AnEmptyPalmIsNotGone() {
        PalmHours x = made("corner c;gone all;");
        x.minutes(5);
        due("empty for five", x.corner(0, 1), 5);
    }

    static void term2GoneIsByTheNewMinute() {
        PalmHours x = made("thing a weigh 7 lasts 1;corner c;palm c has a;gone minute=2 and held=2;");
        x.minutes(1);
        due("not yet", x.corner(0, 0), 0);
        x.minutes(1);
        due("gone", x.corner(0, 0), NONE);
    }

    static void term2DoneAtFirst() {
        PalmHours x = made("corner c;doing d at c hour 0;doing e at c hour 1;");
        due("done", x.doing(0, 2), 1);
        due("not done", x.doing(1, 2), 0);
        due("KEPT at MINUTE 0", x.kept(0, 0), 0);
    }

    static void term2DoneBehindEachMinute() {
        PalmHours x = made("corner c;says if(minute=3,9,0);doing d at c hour 9;");
        due("within five", x.minutes(5), 1);
        due("KEPT at MINUTE 3", x.kept(0, 0), 3);
        x = made("corner c;says if(minute=3,9,0);doing d at c hour 9;");
        x.chance(5);
        due("by the seed", x.kept(0, 0), 3);
    }

    static void term2DoneBehindWhatIsGiven() {
        PalmHours x = made(SMALL);
        x.give(2, 1);
        due("done", x.doing(1, 2), 1);
    }

    static void term2DoneBehindWhatIsTaken() {
        PalmHours x = made("thing a weigh 7 lasts 9;corner c;palm c has a;doing d at c hour 0;");
        x.take(0);
        due("done", x.doing(0, 2), 1);
    }

    static void term2DoneOnceAlone() {
        PalmHours x = made("corner c;says minute%2;doing d at c hour 0;doing e at c hour 1;");
        due("one more", x.minutes(9), 1);
        due("KEPT once each", x.has(7), 2);
    }

    private static int draw(long[] seed, int m) {
        seed[0] = (1103515245L * seed[0] + 12345L) % 2147483648L;
        return (int) (seed[0] / 64 % m);
    }

    private static int seedThatDraws(int number) {
        for (int seed = 0; seed < 100000; seed++) {
            if (draw(new long[] {seed}, 100) == number) {
                return seed;
            }
        }
        return NONE;
    }

    static void term2ADrawBelowPass() {
        int[] passes = {1, 40, 99};
        for (int pass : passes) {
            PalmHours x = made("thing a weigh 7 lasts 9;corner c;pass " + pass + ";");
            x.seed(seedThatDraws(pass - 1));
            due("one below " + pass, x.chance(1), 1);
            x.seed(seedThatDraws(pass));
            due("just " + pass, x.chance(1), 0);
        }
    }

    static void term2ADrawOf100AgainstPass100() {
        PalmHours x = made("thing a weigh 7 lasts 9;corner c;pass 100;");
        x.seed(seedThatDraws(99));
        due("99", x.chance(1), 1);
        x = made("thing a weigh 7 lasts 9;corner c;pass 0;");
        x.seed(seedThatDraws(0));
        due("0", x.chance(1), 0);
    }

    static void term2DrawsWithoutCornersOrThings() {
        String[] texts = {"pass 100;", "corner c;pass 100;", "thing a weigh 7 lasts 9;pass 100;"};
        for (String text : texts) {
            PalmHours x = made(text);
            due("none are given", x.chance(1), 0);
            due("one DRAW", x.has(10), 1103527590);
        }
    }

    static void term2OneDrawWhereNothingIsGiven() {
        PalmHours x = made("thing a weigh 7 lasts 9;corner c;");
        x.chance(1);
        due("one DRAW", x.has(10), 1103527590);
    }

    static void term2ThreeDrawsWhereAThingIsGiven() {
        PalmHours x = made("thing a weigh 7 lasts 9;corner c;pass 100;");
        x.chance(1);
        long[] seed = {1};
        draw(seed, 100);
        draw(seed, 1);
        draw(seed, 1);
        due("three DRAWS", x.has(10), seed[0]);
    }

    static void term2TheSeedWrapsAround() {
        PalmHours x = new PalmHours();
        x.seed(MOST);
        x.chance(1);
        due("2 to the 31 less 1: -1103515245 + 12345 mod 2 to the 31", x.has(10), 1043980748);
        x.seed(0);
        x.chance(1);
        due("0", x.has(10), 12345);
        x.seed(1 << 30);
        x.chance(1);
        due("2 to the 30: an odd many times that", x.has(10), (1 << 30) + 12345);
    }

    static void term2BySeedDoingsAreDoneBehindTheGivingAlone() {
        PalmHours x = made("thing a weigh 7 lasts 1;corner c;palm c has a;pass 100;doing d at c hour 0;");
        due("gone, and given again", x.chance(9), 9);
        due("never told as empty", x.doing(0, 2), 0);
    }

    static void term2KeptByNumbersWithinOneMinute() {
        PalmHours x = made("corner c;corner b;says minute;doing f at b hour 2;doing e at c hour 2;doing d at b hour 2;doing g at c hour 1;");
        x.minutes(2);
        int[] doings = {3, 0, 1, 2};
        for (int k = 0; k < 4; k++) {
            due("the " + k + "th", x.kept(k, 1), doings[k]);
        }
    }

    static void term2AllDoingsAreKept() {
        PalmHours x = made("corner c;says minute;" + many("doing d", 'a', 'f', " at c hour 1;"));
        due("six", x.minutes(1), 6);
        due("six are KEPT", x.has(7), 6);
        due("the last", x.kept(5, 1), 5);
        due("none behind it", x.kept(6, 1), NONE);
    }

    static void term2TheLast20ActsCanBeUndone() {
        PalmHours x = made("thing a weigh 7 lasts 99;corner c;");
        x.give(0, 0);
        for (int k = 0; k < 20; k++) {
            x.minutes(1);
        }
        due("20 at most", x.has(9), 20);
        for (int k = 19; k >= 0; k--) {
            due("undo()", x.undo(), true);
            due("MINUTE", x.has(4), k);
        }
        due("the 21st", x.undo(), false);
        due("what was given stays", x.corner(0, 0), 0);
    }

    static void term2ActsInTheFullestTown() {
        PalmHours x = made(FULL);
        for (int corner = 0; corner < 5; corner++) {
            due("give", x.give(corner, corner), corner + 1);
        }
        due("done", x.has(5), 5);
        due("the last DOING", x.give(4, 5), 6);
        due("all are done", x.has(5), 6);
        due("all are KEPT", x.kept(5, 1), 5);
        due("minutes", x.minutes(9), 0);
        due("all palms are empty", x.has(6), 5);
        due("chance", x.chance(100), 100);
        due("undone", x.undo(), true);
        due("all palms are empty", x.has(6), 5);
        for (int k = 0; k < 7; k++) {
            due("undone", x.undo(), true);
        }
        due("none is done", x.has(5), 0);
        due("one palm has its THING", x.corner(4, 0), 0);
    }

    // ---- promises 23 to 29: acts

    private static void isRefused(PalmHours x, String ahead, String refusals) {
        due("all stays", all(x).equals(ahead), true);
        due("refused: " + refusals(x), refusals(x).equals(refusals), true);
    }

    static void promise23From1To100() {
        PalmHours x = made(SMALL);
        due("1", x.minutes(1), 0);
        due("MINUTE", x.has(4), 1);
        due("100", x.minutes(100), 0);
        due("MINUTE", x.has(4), 101);
    }

    static void promise23Refused() {
        PalmHours x = busy();
        String ahead = all(x);
        due("0", x.minutes(0), NONE);
        due("-1", x.minutes(-1), NONE);
        due("101", x.minutes(101), NONE);
        for (int far : FAR) {
            due("n " + far, x.minutes(far), NONE);
        }
        isRefused(x, ahead, "0 0 9 0 0 0 ");
    }

    static void promise23BeyondMinute9999() {
        PalmHours x = at(9989, "corner c;");
        due("11", x.minutes(11), NONE);
        due("nothing went by", x.has(4), 9989);
        due("10", x.minutes(10), 0);
        due("MINUTE", x.has(4), 9999);
        due("1", x.minutes(1), NONE);
        due("refused", x.status(2), 2);
    }

    static void promise23IsOneAct() {
        PalmHours x = made(SMALL);
        x.minutes(100);
        due("one", x.has(9), 1);
        x.undo();
        due("MINUTE", x.has(4), 0);
    }

    static void promise23WithoutDraws() {
        PalmHours x = made(SMALL + "pass 100;");
        x.minutes(100);
        due("the seed", x.has(10), 1);
        due("nothing is given", x.corner(2, 1), 100);
    }

    static void promise24From1To100() {
        PalmHours x = made(SMALL + "pass 100;");
        due("1", x.chance(1), 1);
        due("MINUTE", x.has(4), 1);
        due("100", x.chance(100), 100);
        due("MINUTE", x.has(4), 101);
    }

    static void promise24Refused() {
        PalmHours x = busy();
        String ahead = all(x);
        due("0", x.chance(0), NONE);
        due("-1", x.chance(-1), NONE);
        due("101", x.chance(101), NONE);
        for (int far : FAR) {
            due("n " + far, x.chance(far), NONE);
        }
        isRefused(x, ahead, "0 0 9 0 0 0 ");
    }

    static void promise24BeyondMinute9999() {
        PalmHours x = at(9989, "thing a weigh 3 lasts 9;corner c;pass 100;");
        due("11", x.chance(11), NONE);
        due("no DRAW", x.has(10), 1);
        due("10", x.chance(10), 10);
        due("MINUTE", x.has(4), 9999);
        due("1", x.chance(1), NONE);
        due("refused", x.status(2), 2);
    }

    static void promise24IsOneAct() {
        PalmHours x = made(SMALL + "pass 100;");
        x.chance(100);
        due("one", x.has(9), 1);
        x.undo();
        due("MINUTE", x.has(4), 0);
    }

    static void promise25Refused() {
        PalmHours x = busy();
        String ahead = all(x);
        due("a CORNER too many", x.give(3, 0), NONE);
        due("a CORNER below 0", x.give(-1, 0), NONE);
        due("a THING too many", x.give(0, 2), NONE);
        due("a THING below 0", x.give(0, -1), NONE);
        for (int far : FAR) {
            due("corner " + far, x.give(far, 0), NONE);
            due("thing " + far, x.give(0, far), NONE);
        }
        isRefused(x, ahead, "0 0 0 16 0 0 ");
    }

    static void promise25TheLastOnes() {
        PalmHours x = made(SMALL);
        due("the last THING to the last CORNER", x.give(2, 1), 5);
        due("in the palm", x.corner(2, 0), 1);
    }

    static void promise25ToAPalmThatIsNotEmpty() {
        PalmHours x = made(SMALL);
        x.minutes(2);
        due("the same THING", x.give(0, 0), 12);
        due("held 0", x.corner(0, 1), 0);
        x.minutes(2);
        due("it lasts anew", x.corner(0, 0), 0);
        due("another", x.give(0, 1), 5);
        due("held 0", x.corner(0, 1), 0);
    }

    static void promise25AtMinute9999() {
        PalmHours x = at(9999, "thing a weigh 3 lasts 9;corner c;");
        due("given", x.give(0, 0), 3);
        due("taken", x.take(0), 0);
        due("undone", x.undo(), true);
        due("in the palm", x.corner(0, 0), 0);
    }

    static void promise26Refused() {
        PalmHours x = made(SMALL);
        String ahead = all(x);
        due("an empty palm", x.take(2), NONE);
        due("a CORNER too many", x.take(3), NONE);
        due("below 0", x.take(-1), NONE);
        for (int far : FAR) {
            due("corner " + far, x.take(far), NONE);
        }
        isRefused(x, ahead, "0 0 0 9 0 0 ");
    }

    static void promise26WhatIsGoneCannotBeTaken() {
        PalmHours x = made(SMALL);
        x.minutes(3);
        due("it is gone", x.take(0), NONE);
        due("refused", x.status(3), 1);
    }

    static void promise26Twice() {
        PalmHours x = made(SMALL);
        x.minutes(2);
        due("taken", x.take(0), 0);
        due("empty since now", x.corner(0, 1), 0);
        x.minutes(1);
        due("again", x.take(0), NONE);
        due("empty for one", x.corner(0, 1), 1);
    }

    static void promise27NoneCanBe() {
        PalmHours x = made(SMALL);
        String ahead = all(x);
        due("none", x.undo(), false);
        isRefused(x, ahead, "0 0 0 0 1 0 ");
        due("a new object", new PalmHours().undo(), false);
    }

    static void promise27EachAct() {
        PalmHours x = made(SMALL + "pass 100;");
        x.seed(0);
        String first = all(x);
        x.minutes(1);
        String second = all(x);
        x.give(2, 1);
        String third = all(x);
        x.take(0);
        String fourth = all(x);
        x.chance(5);
        x.seed(0);
        due("chance", x.undo() && all(x).equals(fourth), true);
        due("take", x.undo() && all(x).equals(third), true);
        due("give", x.undo() && all(x).equals(second), true);
        due("minutes", x.undo() && all(x).equals(first), true);
        due("none", x.undo(), false);
    }

    static void promise27ButTheSeed() {
        PalmHours x = made(SMALL);
        x.chance(1);
        x.undo();
        due("drawn on", x.has(10), 1103527590);
    }

    static void promise27TheTwentyFirst() {
        PalmHours x = made(SMALL);
        for (int k = 0; k < 21; k++) {
            x.minutes(1);
        }
        for (int k = 0; k < 20; k++) {
            due("undo " + k, x.undo(), true);
        }
        due("the 21st", x.undo(), false);
        due("MINUTE", x.has(4), 1);
        due("refused", x.status(4), 1);
    }

    static void promise27ToAndFro() {
        PalmHours x = made(SMALL);
        for (int round = 0; round < 30; round++) {
            x.minutes(2);
            x.minutes(1);
            due("undone", x.undo(), true);
        }
        due("MINUTE", x.has(4), 60);
        due("one of twenty is undone", x.has(9), 19);
        x.undo();
        due("MINUTE", x.has(4), 58);
    }

    static void promise27ARefusedCallIsNoAct() {
        PalmHours x = made(SMALL);
        x.minutes(1);
        x.minutes(0);
        x.chance(0);
        x.give(9, 9);
        x.take(9);
        due("one", x.has(9), 1);
        due("undone", x.undo(), true);
        due("MINUTE", x.has(4), 0);
    }

    static void promise27WhatWasDoneAndKept() {
        PalmHours x = made(SMALL);
        x.give(2, 1);
        due("KEPT", x.has(7), 2);
        x.undo();
        due("not KEPT", x.has(7), 1);
        due("not done", x.doing(1, 2), 0);
        x.minutes(4);
        x.give(2, 1);
        due("KEPT anew", x.kept(1, 0), 4);
    }

    static void promise28Below0() {
        PalmHours x = busy();
        String ahead = all(x);
        due("-1", x.seed(-1), false);
        due("the least", x.seed(LEAST), false);
        isRefused(x, ahead, "0 0 0 0 0 2 ");
    }

    static void promise28From0On() {
        PalmHours x = new PalmHours();
        due("0", x.seed(0), true);
        due("has(10)", x.has(10), 0);
        due("the most", x.seed(MOST), true);
        due("has(10)", x.has(10), MOST);
    }

    static void promise28IsNoAct() {
        PalmHours x = made(SMALL);
        x.seed(7);
        due("none can be undone", x.has(9), 0);
    }

    static void promise29NoneSuchOrOthers() {
        PalmHours x = made(SMALL);
        due("the oldest", x.kept(0, 1), 0);
        due("one too many", x.kept(1, 0), NONE);
        due("below 0", x.kept(-1, 0), NONE);
        due("another what", x.kept(0, 2), NONE);
        due("another what", x.kept(0, -1), NONE);
        for (int far : FAR) {
            due("k " + far, x.kept(far, 0), NONE);
            due("what " + far, x.kept(0, far), NONE);
        }
        due("a new object", new PalmHours().kept(0, 0), NONE);
    }

    static void promise29AtMinute9999() {
        PalmHours x = made("corner c;says minute-9990;doing d at c hour 9;");
        due("on()", on(x, image(39, 10, 255, 0, 0, 0)), true);
        due("done", x.minutes(5), 1);
        due("MINUTE", x.kept(0, 0), 9999);
    }

    // ---- promises 30 to 33: images, refusals

    static void promise30WithoutATown() {
        PalmHours x = new PalmHours();
        due("three", x.image(), 3);
        due("0", x.octet(0), 0);
        due("0", x.octet(1), 0);
        due("227 * 25 mod 251", x.octet(2), 153);
    }

    static void promise30TheLargest() {
        PalmHours x = made(many("thing t", 'a', 'f', " weigh 1 lasts 1;") + many("corner c", 'a', 'e', ";")
            + many("doing d", 'a', 'f', " at ca hour 9;"));
        due("2 + 15 + 6 + 1", x.image(), 24);
        due("the last", x.octet(23) >= 0, true);
        due("none behind it", x.octet(24), NONE);
    }

    static void promise30TheHigherByteFirst() {
        PalmHours x = made("thing a weigh 3 lasts 9;corner c;gone minute=0;");
        int[] bytes = {39, 15, 0, 3, 231};
        due("on()", on(x, image(bytes)), true);
        due("six", x.image(), 6);
        for (int k = 0; k < 5; k++) {
            due("byte " + k, x.octet(k), bytes[k]);
        }
        due("the last", x.octet(5), check(bytes));
    }

    static void promise30AnEmptyPalmIs255() {
        PalmHours x = made(SMALL);
        x.image();
        due("none", x.octet(8), 255);
        due("THING 1", x.octet(5), 1);
    }

    static void promise31NoneSuch() {
        PalmHours x = made("corner c;");
        due("ahead of any", x.octet(0), NONE);
        x.image();
        due("the first", x.octet(0), 0);
        due("the last", x.octet(5), check(0, 0, 255, 0, 0));
        due("one too many", x.octet(6), NONE);
        due("below 0", x.octet(-1), NONE);
        for (int far : FAR) {
            due("k " + far, x.octet(far), NONE);
        }
    }

    static void promise31OfTheLatest() {
        PalmHours x = made("corner c;");
        x.image();
        x.minutes(9);
        due("not of now", x.octet(1), 0);
        x.image();
        due("of the latest", x.octet(1), 9);
        Check.town(x, "");
        x.image();
        due("a shorter one", x.octet(3), NONE);
    }

    private static final String IMAGES = "thing a weigh 12 lasts 99;thing b weigh 5 lasts 99;corner c;corner d;doing e at c hour 12;";

    private static void isOn(boolean want, int... ahead) {
        PalmHours x = made(IMAGES);
        x.give(1, 1);
        String before = all(x);
        due("on() of " + Arrays.toString(ahead), on(x, image(ahead)), want);
        due("the tape goes", x.end(1), false);
        due("refused", x.status(5), want ? 0 : 1);
        due("all stays", all(x).equals(before), !want);
    }

    static void promise32Minute9999AtMost() {
        isOn(true, 39, 15, 0, 0, 0, 1, 0, 0, 0);
        isOn(false, 39, 16, 0, 0, 0, 1, 0, 0, 0);
        isOn(false, 40, 0, 0, 0, 0, 1, 0, 0, 0);
        isOn(false, 255, 255, 0, 0, 0, 1, 0, 0, 0);
    }

    static void promise32Held999AtMost() {
        isOn(true, 0, 0, 0, 3, 231, 255, 3, 231, 0);
        isOn(false, 0, 0, 0, 3, 232, 1, 0, 0, 0);
        isOn(false, 0, 0, 0, 4, 0, 1, 0, 0, 0);
        isOn(false, 0, 0, 0, 0, 0, 255, 3, 232, 0);
        isOn(false, 0, 0, 0, 0, 0, 255, 255, 255, 0);
    }

    static void promise32ThingsThatThereAre() {
        isOn(true, 0, 0, 1, 0, 0, 0, 0, 0, 0);
        isOn(false, 0, 0, 2, 0, 0, 0, 0, 0, 0);
        isOn(false, 0, 0, 0, 0, 0, 254, 0, 0, 0);
    }

    static void promise32Done1AtMost() {
        isOn(true, 0, 0, 0, 0, 0, 0, 0, 0, 1);
        isOn(false, 0, 0, 0, 0, 0, 0, 0, 0, 2);
        isOn(false, 0, 0, 0, 0, 0, 0, 0, 0, 255);
    }

    static void promise32TooShortOrTooLong() {
        isOn(false);
        isOn(false, 0, 0);
        isOn(false, 0, 0, 0, 0, 0, 0, 0, 0);
        isOn(false, 0, 0, 0, 0, 0, 0, 0, 0, 0, 0);
        PalmHours x = made(IMAGES);
        due("an empty tape", x.on(), false);
        due("refused", x.status(5), 1);
    }

    static void promise32AWrongLastByte() {
        byte[] bytes = image(0, 0, 0, 0, 0, 0, 0, 0, 0);
        for (int k = 1; k < 256; k++) {
            PalmHours x = made(IMAGES);
            bytes[9]++;
            due("a last byte of " + (bytes[9] & 255), on(x, bytes), false);
        }
    }

    static void promise32WithoutATown() {
        PalmHours x = new PalmHours();
        due("on()", on(x, image(1, 2)), true);
        due("MINUTE", x.has(4), 258);
    }

    static void promise32NoDoingIsDoneByThat() {
        PalmHours x = made(IMAGES);
        due("on()", on(x, image(0, 9, 0, 0, 0, 255, 0, 0, 0)), true);
        due("its hour is told", x.corner(0, 2), 12);
        due("it is not done", x.doing(0, 2), 0);
        due("behind a MINUTE it is", x.minutes(1), 1);
        due("KEPT", x.kept(0, 0), 10);
    }

    static void promise32ADoneDoingStaysDone() {
        PalmHours x = made(IMAGES);
        due("on()", on(x, image(0, 9, 255, 0, 0, 255, 0, 0, 1)), true);
        due("it is done", x.doing(0, 2), 1);
        due("it is not KEPT", x.has(7), 0);
        x.give(0, 0);
        due("nor done again", x.has(7), 0);
    }

    static void promise32NothingIsKeptNoActCanBeUndone() {
        PalmHours x = made(IMAGES);
        x.give(0, 0);
        due("KEPT", x.has(7), 1);
        due("on()", on(x, image(0, 0, 0, 0, 0, 1, 0, 0, 1)), true);
        due("nothing is KEPT", x.has(7), 0);
        due("has(9)", x.has(9), 0);
        due("undo()", x.undo(), false);
    }

    static void promise32TheSeedAndSeenStay() {
        PalmHours x = made(IMAGES);
        x.seed(77);
        see(x, 0, 0, 12);
        due("on()", on(x, image(0, 0, 0, 0, 0, 1, 0, 0, 1)), true);
        due("seed", x.has(10), 77);
        due("SEEN", x.has(8), 1);
    }

    static void promise32EachPalmAndEachDoing() {
        PalmHours x = made(SMALL);
        due("on()", on(x, image(1, 2, 255, 1, 3, 0, 0, 4, 1, 2, 5, 0, 1)), true);
        int[] things = {NONE, 0, 1};
        int[] held = {259, 4, 517};
        for (int corner = 0; corner < 3; corner++) {
            due("THING of " + corner, x.corner(corner, 0), things[corner]);
            due("held at " + corner, x.corner(corner, 1), held[corner]);
        }
        due("the first is not done", x.doing(0, 2), 0);
        due("the second is", x.doing(1, 2), 1);
        due("one is done", x.has(5), 1);
        due("image()", x.image(), 14);
        due("not done", x.octet(11), 0);
        due("done", x.octet(12), 1);
    }

    static void promise32TheLargest() {
        PalmHours x = made(FULL);
        int[] bytes = new int[23];
        bytes[0] = 39;
        bytes[1] = 15;
        for (int corner = 0; corner < 5; corner++) {
            bytes[2 + 3 * corner] = 5 - corner;
            bytes[3 + 3 * corner] = 3;
            bytes[4 + 3 * corner] = 231 - corner;
        }
        Arrays.fill(bytes, 17, 23, 1);
        due("on()", on(x, image(bytes)), true);
        due("all are done", x.has(5), 6);
        due("the last palm", x.corner(4, 0), 1);
        due("held", x.corner(4, 1), 995);
        due("image()", x.image(), 24);
        for (int k = 0; k < 23; k++) {
            due("byte " + k, x.octet(k), bytes[k]);
        }
    }

    static void promise32ItsOwnImage() {
        PalmHours x = busy();
        x.give(0, 1);
        byte[] bytes = new byte[x.image()];
        for (int k = 0; k < bytes.length; k++) {
            bytes[k] = (byte) x.octet(k);
        }
        int minute = x.has(4);
        int held = x.corner(1, 1);
        x.minutes(50);
        due("on()", on(x, bytes), true);
        due("MINUTE", x.has(4), minute);
        due("THING", x.corner(0, 0), 1);
        due("held", x.corner(1, 1), held);
    }

    static void promise33Others() {
        PalmHours x = made(SMALL);
        int[] others = {LEAST, -1, 6, 7, MOST};
        for (int what : others) {
            due("status " + what, x.status(what), NONE);
        }
    }

    static void promise33EachCallByItself() {
        PalmHours x = made(SMALL);
        x.end(-1);
        due("end", refusals(x).equals("1 0 0 0 0 0 "), true);
        Check.town(x, "#");
        due("town", refusals(x).equals("1 1 0 0 0 0 "), true);
        x.minutes(0);
        due("minutes", refusals(x).equals("1 1 1 0 0 0 "), true);
        x.chance(0);
        due("chance", refusals(x).equals("1 1 2 0 0 0 "), true);
        x.give(9, 0);
        due("give", refusals(x).equals("1 1 2 1 0 0 "), true);
        x.take(9);
        due("take", refusals(x).equals("1 1 2 2 0 0 "), true);
        x.undo();
        due("undo", refusals(x).equals("1 1 2 2 1 0 "), true);
        x.seed(-1);
        due("seed", refusals(x).equals("1 1 2 2 1 1 "), true);
        x.see();
        due("see", refusals(x).equals("1 1 2 2 1 2 "), true);
        x.on();
        due("on", refusals(x).equals("1 1 2 2 1 3 "), true);
        x = fed(80);
        x.feed(0, 0, 0, 0, 0);
        due("feed", refusals(x).equals("1 0 0 0 0 0 "), true);
    }

    static void promise33TheyStay() {
        PalmHours x = made(SMALL);
        x.minutes(0);
        x.undo();
        Check.town(x, SMALL);
        due("behind town()", refusals(x).equals("0 0 1 0 1 0 "), true);
        on(x, image(0, 0, 0, 0, 0, 1, 0, 0, 255, 0, 0, 1, 0));
        due("behind on()", refusals(x).equals("0 0 1 0 1 0 "), true);
        x.minutes(1);
        x.undo();
        due("behind undo()", refusals(x).equals("0 0 1 0 1 0 "), true);
    }
}
