/** Boundaries of what is asked (the Terms, III) and of promises 6 to 22. */
public final class AskedBoundariesTest extends Boundaries {
    private AskedBoundariesTest() {
    }

    public static void main(String[] args) throws ReflectiveOperationException {
        runAll(AskedBoundariesTest.class);
    }

    // ---- III. what is asked: what the promises share

    static void term3AheadIsNotBeyondMinute9999() {
        String text = "thing a weigh 7 lasts 99;corner c;says minute-9990;";
        PalmHours x = at(9998, text);
        due("later 1", x.later(0, 1), 9);
        due("later 2", x.later(0, 2), NONE);
        due("evening", x.evening(0, 1), 0);
        due("plan 1", x.plan(0, 1, NONE), 0);
        due("plan 2", x.plan(0, 2, NONE), NONE);
        due("odds 1", x.odds(0, 9, 1), 100);
        due("odds 2", x.odds(0, 9, 2), NONE);
        x = at(9999, text);
        due("later 0", x.later(0, 0), 9);
        due("later 1", x.later(0, 1), NONE);
        due("odds 1", x.odds(0, NONE, 1), NONE);
        due("tells", x.tells(0, 0), 0);
        due("early", x.early(0), NONE);
    }

    static void term3QuestionsChangeNothing() {
        PalmHours x = made(SMALL + "says weigh+held;pass 50;");
        x.minutes(2);
        x.image();
        see(x, 0, 0, 14);
        String ahead = all(x) + refusals(x);
        int[] numbers = {LEAST, -2, -1, 0, 1, 2, 3, 23, 24, 60, MOST};
        for (int a : numbers) {
            ask(x, a);
            for (int b : numbers) {
                ask(x, a, b);
                for (int c : numbers) {
                    x.letter(a, b, c);
                    x.plan(a, b, c);
                    x.odds(a, b, c);
                }
            }
        }
        due("all stays", (all(x) + refusals(x)).equals(ahead), true);
    }

    static void term3TheFullestTown() {
        PalmHours x = made(FULL);
        int[] counts = {6, 5, 10, 6, 0, 0, 4, 0, 0, 0, 1};
        for (int what = 0; what <= 10; what++) {
            due("has " + what, x.has(what), counts[what]);
        }
        due("the last THING", x.thing(5, 0), 6);
        due("the last DOING", x.doing(5, 0), 4);
        due("later", x.later(4, 8), 1);
        due("gone", x.later(4, 9), 0);
        due("when", x.when(5), NONE);
        due("alike", x.alike(0, 4), 9);
        due("evening", x.evening(4, 1), 8);
        due("way", x.way(0, 4), 1);
        due("early", x.early(4), 9);
        due("held", x.held(4), 127);
        due("tells", x.tells(4, 1), 1);
        due("odds", x.odds(4, 6, 1), 100);
    }

    static void term3AFullPlan() {
        PalmHours x = made(FULL);
        due("for nothing", x.plan(0, 20, NONE), 0);
        due("five DOINGS", x.plan(31, 0, NONE), 5);
        for (int corner = 0; corner < 5; corner++) {
            due("THING for " + corner, x.plan(31, 0, corner), corner);
        }
        due("another at the last CORNER", x.plan(47, 20, 4), 5);
        due("both at the last CORNER", x.plan(63, 20, NONE), NONE);
    }

    static void term3SixteenRowsOfFiveCorners() {
        PalmHours x = made(FULL);
        int[] rows = new int[48];
        for (int k = 0; k < 16; k++) {
            rows[3 * k] = k % 9;
            rows[3 * k + 1] = k % 5;
            rows[3 * k + 2] = k % 5 == 4 ? 1 : 0;
        }
        due("see()", see(x, rows), 16);
        due("none", x.held(0), 1);
        due("the first THING", x.held(4), 2);
        rows[46] = 4;
        see(x, rows);
        due("the last row is not so", x.held(0), 0);
        due("nor by any", x.held(4), 0);
        see(x, new int[48]);
        due("sixteen of one CORNER", x.held(0), 1);
        due("any at another", x.held(4), 127);
    }

    private static void ask(PalmHours x, int a) {
        x.fault(a);
        x.has(a);
        x.when(a);
        x.early(a);
        x.held(a);
        x.octet(a);
        x.status(a);
    }

    private static void ask(PalmHours x, int a, int b) {
        x.thing(a, b);
        x.corner(a, b);
        x.doing(a, b);
        x.later(a, b);
        x.alike(a, b);
        x.evening(a, b);
        x.way(a, b);
        x.arrive(a, b);
        x.tells(a, b);
        x.kept(a, b);
    }

    // ---- promises 6 to 10: what there is

    static void promise06Others() {
        PalmHours x = made(SMALL);
        int[] others = {LEAST, -1, 11, 12, MOST};
        for (int what : others) {
            due("has " + what, x.has(what), NONE);
        }
    }

    static void promise06EmptyPalms() {
        PalmHours x = made(SMALL);
        due("one", x.has(6), 1);
        x.give(2, 0);
        due("none", x.has(6), 0);
        x.minutes(100);
        due("all", x.has(6), 3);
    }

    static void promise06ActsThatCanBeUndone() {
        PalmHours x = made(SMALL);
        for (int k = 1; k <= 22; k++) {
            x.minutes(1);
            due("behind " + k, x.has(9), Math.min(20, k));
        }
        x.undo();
        due("one less", x.has(9), 19);
        x.minutes(1);
        due("full again", x.has(9), 20);
    }

    static void promise07LettersBehindTheName() {
        PalmHours x = made("thing a weigh 1 lasts 1;corner zzzzzz;");
        due("the one", x.letter(0, 0, 0), 1);
        for (int k = 1; k < 6; k++) {
            due("behind it " + k, x.letter(0, 0, k), 0);
        }
        for (int k = 0; k < 6; k++) {
            due("all six " + k, x.letter(1, 0, k), 26);
        }
    }

    static void promise07NoneSuch() {
        PalmHours x = made(SMALL);
        int[] counts = {2, 3, 2};
        for (int kind = 0; kind < 3; kind++) {
            due("the last", x.letter(kind, counts[kind] - 1, 0) > 0, true);
            due("one too many", x.letter(kind, counts[kind], 0), NONE);
            due("below 0", x.letter(kind, -1, 0), NONE);
            due("letter 5", x.letter(kind, 0, 5), 0);
            due("letter 6", x.letter(kind, 0, 6), NONE);
            due("letter -1", x.letter(kind, 0, -1), NONE);
            for (int far : FAR) {
                due("which " + far, x.letter(kind, far, 0), NONE);
                due("letter " + far, x.letter(kind, 0, far), NONE);
            }
        }
        due("kind 3", x.letter(3, 0, 0), NONE);
        due("kind -1", x.letter(-1, 0, 0), NONE);
        for (int far : FAR) {
            due("kind " + far, x.letter(far, 0, 0), NONE);
        }
    }

    static void promise08NoneSuchOrOthers() {
        PalmHours x = made(SMALL);
        due("the last", x.thing(1, 1), 99);
        due("one too many", x.thing(2, 0), NONE);
        due("below 0", x.thing(-1, 0), NONE);
        due("another what", x.thing(0, 2), NONE);
        due("another what", x.thing(0, -1), NONE);
        for (int far : FAR) {
            due("thing " + far, x.thing(far, 0), NONE);
            due("what " + far, x.thing(0, far), NONE);
        }
    }

    static void promise09NoneSuchOrOthers() {
        PalmHours x = made(SMALL);
        due("the last", x.corner(2, 1), 0);
        due("one too many", x.corner(3, 1), NONE);
        due("below 0", x.corner(-1, 1), NONE);
        due("another what", x.corner(0, 3), NONE);
        due("another what", x.corner(0, -1), NONE);
        for (int far : FAR) {
            due("corner " + far, x.corner(far, 1), NONE);
            due("what " + far, x.corner(0, far), NONE);
        }
    }

    static void promise09AnEmptyPalm() {
        PalmHours x = made("corner c;says empty*9;");
        due("its THING", x.corner(0, 0), NONE);
        due("its HOUR", x.corner(0, 2), 9);
        x.minutes(4);
        due("empty", x.corner(0, 1), 4);
    }

    static void promise10NoneSuchOrOthers() {
        PalmHours x = made(SMALL);
        due("the last", x.doing(1, 1), 5);
        due("one too many", x.doing(2, 1), NONE);
        due("below 0", x.doing(-1, 1), NONE);
        due("another what", x.doing(0, 3), NONE);
        due("another what", x.doing(0, -1), NONE);
        for (int far : FAR) {
            due("doing " + far, x.doing(far, 1), NONE);
            due("what " + far, x.doing(0, far), NONE);
        }
    }

    // ---- promises 11 to 13: hours ahead

    static void promise11From0To60() {
        PalmHours x = made("corner c;says minute/3;");
        due("0", x.later(0, 0), 0);
        due("60", x.later(0, 60), 20);
        due("61", x.later(0, 61), NONE);
        due("-1", x.later(0, -1), NONE);
        for (int far : FAR) {
            due("n " + far, x.later(0, far), NONE);
        }
    }

    static void promise11NoneSuch() {
        PalmHours x = made(SMALL);
        due("the last", x.later(2, 0), 0);
        due("one too many", x.later(3, 0), NONE);
        due("below 0", x.later(-1, 0), NONE);
        for (int far : FAR) {
            due("corner " + far, x.later(far, 0), NONE);
        }
    }

    static void promise11BeyondMinute9999() {
        PalmHours x = at(9939, "corner c;says minute-9979;");
        due("60 of 60", x.later(0, 60), 20);
        x.minutes(1);
        due("59 of 59", x.later(0, 59), 20);
        due("60 of 59", x.later(0, 60), NONE);
    }

    static void promise12ItIsDone() {
        PalmHours x = made(SMALL);
        due("done at first", x.when(0), 0);
        x.take(0);
        due("though its hour is told no more", x.when(0), 0);
    }

    static void promise12SixtyAtMost() {
        PalmHours x = made("corner c;says minute-40;doing d at c hour 1;doing e at c hour 20;doing f at c hour 21;");
        due("41", x.when(0), 41);
        due("60", x.when(1), 60);
        due("61", x.when(2), NONE);
    }

    static void promise12BehindOneMinute() {
        due("1", made("corner c;says minute;doing d at c hour 1;").when(0), 1);
    }

    static void promise12NotDoneThoughItsHourIsTold() {
        PalmHours x = made("corner c;says minute%5;doing d at c hour 0;");
        due("on()", on(x, image(0, 0, 255, 0, 0, 0)), true);
        due("0 would be: it is done", x.when(0), 5);
    }

    static void promise12TheFirstOfTwo() {
        PalmHours x = made("corner c;says minute%7;doing d at c hour 3;");
        due("behind three, not ten", x.when(0), 3);
        x.minutes(1);
        due("from now on", x.when(0), 2);
    }

    static void promise12ItIsNotDone() {
        PalmHours x = made(SMALL);
        due("its CORNER stays empty", x.when(1), NONE);
    }

    static void promise12NoneSuch() {
        PalmHours x = made(SMALL);
        due("one too many", x.when(2), NONE);
        due("below 0", x.when(-1), NONE);
        for (int far : FAR) {
            due("doing " + far, x.when(far), NONE);
        }
    }

    static void promise12BeyondMinute9999() {
        PalmHours x = made("corner c;says minute-9980;doing d at c hour 19;doing e at c hour 20;");
        due("on()", on(x, image(39, 10, 255, 0, 0, 0, 0)), true);
        due("at MINUTE 9999", x.when(0), 5);
        due("beyond it", x.when(1), NONE);
    }

    static void promise13Now() {
        due("both are empty", made("corner a;corner b;").alike(0, 1), 0);
    }

    static void promise13SixtyAtMost() {
        due("60", made("corner a;corner b;says if(corner=0,20,minute-40);").alike(0, 1), 60);
        due("61", made("corner a;corner b;says if(corner=0,21,minute-40);").alike(0, 1), NONE);
    }

    static void promise13TheFewest() {
        PalmHours x = made("corner a;corner b;says if(corner=0,3,minute%7);");
        due("behind three, not ten", x.alike(0, 1), 3);
        due("the other way round", x.alike(1, 0), 3);
    }

    static void promise13TheyAreOne() {
        PalmHours x = made(SMALL);
        for (int corner = 0; corner < 3; corner++) {
            due("one", x.alike(corner, corner), NONE);
        }
    }

    static void promise13NoneSuch() {
        PalmHours x = made(SMALL);
        due("one too many", x.alike(0, 3), NONE);
        due("one too many", x.alike(3, 0), NONE);
        due("both", x.alike(3, 4), NONE);
        due("below 0", x.alike(-1, 0), NONE);
        due("below 0", x.alike(0, -1), NONE);
        for (int far : FAR) {
            due("one " + far, x.alike(far, 0), NONE);
            due("other " + far, x.alike(0, far), NONE);
        }
    }

    static void promise13BeyondMinute9999() {
        String text = "corner a;corner b;says if(corner=0,19,minute-9980);";
        PalmHours x = made(text);
        due("on()", on(x, image(39, 10, 255, 0, 0, 255, 0, 0)), true);
        due("at MINUTE 9999", x.alike(0, 1), 5);
        x = made(text.replace("19", "20"));
        due("on()", on(x, image(39, 10, 255, 0, 0, 255, 0, 0)), true);
        due("beyond it", x.alike(0, 1), NONE);
    }

    // ---- promises 14 to 16: givings

    private static final String PLANS = "thing a weigh 3 lasts 4;thing b weigh 5 lasts 9;thing e weigh 5 lasts 3;"
        + "corner ca;corner cb;corner cc;doing da at ca hour 5;doing db at cb hour 3;doing dc at cc hour 5;doing dd at cc hour 6;";

    static void promise14NothingIsTold() {
        PalmHours x = made(PLANS);
        due("no THINGS", x.plan(0, 0, NONE), 0);
        due("none for a CORNER", x.plan(0, 20, 2), NONE);
    }

    static void promise14DoneAlready() {
        PalmHours x = made(SMALL);
        due("no THINGS", x.plan(1, 0, NONE), 0);
        x.take(0);
        due("no THINGS, though its hour is told no more", x.plan(1, 0, NONE), 0);
    }

    static void promise14From0To20Minutes() {
        PalmHours x = made("corner c;says minute;doing d at c hour 20;doing e at c hour 21;");
        due("20", x.plan(1, 20, NONE), 0);
        due("19", x.plan(1, 19, NONE), NONE);
        due("21 is too many", x.plan(1, 21, NONE), NONE);
        due("21 is too many, even for nothing", x.plan(0, 21, NONE), NONE);
        due("-1", x.plan(0, -1, NONE), NONE);
        due("an hour that is told behind 21", x.plan(2, 20, NONE), NONE);
        for (int far : FAR) {
            due("n " + far, x.plan(0, far, NONE), NONE);
        }
    }

    static void promise14NoSuchDoings() {
        PalmHours x = made(PLANS);
        due("all of them", x.plan(7, 0, NONE), 3);
        due("a bit too many", x.plan(16, 0, NONE), NONE);
        due("one of them and a bit too many", x.plan(17, 0, NONE), NONE);
        due("bit 31", x.plan(LEAST, 0, NONE), NONE);
        due("all bits", x.plan(-1, 0, NONE), NONE);
        due("all bits but 31", x.plan(MOST, 0, NONE), NONE);
        x = made("corner c;doing d at c hour 0;");
        due("all bits, though all there are is done", x.plan(-1, 0, NONE), NONE);
        due("bit 31 and one that is done", x.plan(LEAST + 1, 0, NONE), NONE);
    }

    static void promise14NoSuchCorner() {
        PalmHours x = made(PLANS);
        due("one too many", x.plan(1, 0, 3), NONE);
        due("-2", x.plan(1, 0, -2), NONE);
        for (int far : FAR) {
            due("corner " + far, x.plan(1, 0, far), NONE);
        }
    }

    static void promise14WithoutOne() {
        PalmHours x = made(PLANS);
        due("no THING weighs that", x.plan(8, 20, NONE), NONE);
        due("nor with another", x.plan(9, 20, NONE), NONE);
        due("nor for a CORNER", x.plan(9, 20, 0), NONE);
        due("two hours at one CORNER", x.plan(12, 20, NONE), NONE);
        due("without THINGS", made("corner c;doing d at c hour 5;").plan(1, 20, NONE), NONE);
    }

    static void promise14OfTheFewest() {
        PalmHours x = made("thing a weigh 3 lasts 9;corner c;corner b;palm c has a;says weigh+held;doing d at c hour 5;doing e at b hour 5;");
        due("it comes by itself at both", x.plan(3, 5, NONE), 0);
        due("at one", x.plan(3, 3, NONE), 1);
        due("none for the one", x.plan(3, 3, 0), NONE);
        due("a for the other", x.plan(3, 3, 1), 0);
        due("at none in time", x.plan(3, 1, NONE), NONE);
    }

    static void promise14OfLikeOnesTheFirstRow() {
        PalmHours x = made(PLANS);
        due("b, not e", x.plan(1, 0, 0), 1);
        due("b, not e", x.plan(5, 0, 2), 1);
        due("as often as one likes", x.plan(5, 0, 0), 1);
    }

    static void promise14GivenIsHeld0() {
        PalmHours x = made("thing a weigh 3 lasts 2;thing b weigh 9 lasts 9;corner c;says weigh+held;doing d at c hour 4;doing e at c hour 5;");
        due("held 1", x.plan(1, 1, 0), 0);
        due("gone at 2, then empty 4 longer", x.plan(1, 6, 0), NONE);
        due("the empty palm does it", x.plan(1, 4, NONE), 0);
    }

    static void promise14BeyondMinute9999() {
        PalmHours x = at(9989, "thing a weigh 3 lasts 2;corner c;");
        due("10", x.plan(0, 10, NONE), 0);
        due("11", x.plan(0, 11, NONE), NONE);
    }

    static void promise15Longest() {
        PalmHours x = made("thing a weigh 3 lasts 4;thing b weigh 5 lasts 9;thing e weigh 7 lasts 8;corner c;");
        due("the THING", x.evening(0, 0), 1);
        due("gone behind nine", x.evening(0, 1), 8);
    }

    static void promise15SixtyAtMost() {
        PalmHours x = made("thing a weigh 3 lasts 61;thing b weigh 5 lasts 99;corner c;");
        due("60", x.evening(0, 1), 60);
        due("of like ones the first", x.evening(0, 0), 0);
        x = made("thing a weigh 3 lasts 60;thing b weigh 5 lasts 61;corner c;");
        due("59 and 60", x.evening(0, 0), 1);
        due("59 alone", made("thing a weigh 3 lasts 60;corner c;").evening(0, 1), 59);
    }

    static void promise15OneAfterTheOther() {
        PalmHours x = made("thing a weigh 3 lasts 99;corner c;says if(held=3,1,5);");
        due("the second stay does not count", x.evening(0, 1), 2);
    }

    static void promise15NotOneMinute() {
        PalmHours x = made("thing a weigh 3 lasts 1;thing b weigh 5 lasts 1;corner c;");
        due("0", x.evening(0, 1), 0);
        due("the first", x.evening(0, 0), 0);
    }

    static void promise15TheSameHourOnceItIsGone() {
        PalmHours x = made("thing a weigh 9 lasts 50;thing b weigh 0 lasts 1;corner c;");
        due("an empty palm tells it, too", x.evening(0, 0), 1);
        due("60", x.evening(0, 1), 60);
    }

    static void promise15WithoutThings() {
        PalmHours x = made("corner c;");
        due("the THING", x.evening(0, 0), NONE);
        due("how long", x.evening(0, 1), NONE);
    }

    static void promise15NoneSuchOrOthers() {
        PalmHours x = made(SMALL);
        due("the last", x.evening(2, 1), 60);
        due("one too many", x.evening(3, 1), NONE);
        due("below 0", x.evening(-1, 1), NONE);
        due("another what", x.evening(0, 2), NONE);
        due("another what", x.evening(0, -1), NONE);
        for (int far : FAR) {
            due("corner " + far, x.evening(far, 1), NONE);
            due("what " + far, x.evening(0, far), NONE);
        }
    }

    static void promise15BeyondMinute9999() {
        PalmHours x = at(9990, "thing a weigh 3 lasts 99;corner c;");
        due("9", x.evening(0, 1), 9);
        x.minutes(9);
        due("0", x.evening(0, 1), 0);
        due("the THING", x.evening(0, 0), 0);
    }

    private static final String ODDS = "thing a weigh 3 lasts 2;thing b weigh 5 lasts 1;corner c;corner d;palm c has a;";

    static void promise16Hours() {
        PalmHours x = made(ODDS + "pass 30;says if(held=0,23,0);");
        due("0", x.odds(0, 0, 1), 400 - 60);
        due("23", x.odds(0, 23, 1), 60);
        due("24", x.odds(0, 24, 1), NONE);
        due("NONE", x.odds(0, NONE, 1), 400);
        due("-2", x.odds(0, -2, 1), NONE);
        for (int far : FAR) {
            due("hour " + far, x.odds(0, far, 1), NONE);
        }
    }

    static void promise16OneOrTwoMinutes() {
        PalmHours x = made(ODDS + "pass 30;");
        due("0", x.odds(0, NONE, 0), NONE);
        due("1", x.odds(0, NONE, 1), 400);
        due("2", x.odds(0, NONE, 2), 160000);
        due("3", x.odds(0, NONE, 3), NONE);
        due("-1", x.odds(0, NONE, -1), NONE);
        for (int far : FAR) {
            due("n " + far, x.odds(0, NONE, far), NONE);
        }
    }

    static void promise16AllHoursAreAllRows() {
        PalmHours x = made(ODDS + "pass 30;");
        for (int n = 1; n <= 2; n++) {
            long rows = 0;
            for (int hour = 0; hour <= 23; hour++) {
                rows += x.odds(1, hour, n);
            }
            due("all rows of " + n, rows, x.odds(1, NONE, n));
        }
    }

    static void promise16PassOf0And100() {
        PalmHours x = made(ODDS + "pass 0;");
        due("0: it is held on", x.odds(0, 3, 1), 400);
        due("0: nothing is given", x.odds(0, 5, 1), 0);
        x = made(ODDS + "pass 100;");
        due("100: given to the other, or a here", x.odds(0, 3, 1), 200 + 100);
        due("100: b here", x.odds(0, 5, 1), 100);
    }

    static void promise16TheMostRows() {
        PalmHours x = made(many("thing t", 'a', 'f', " weigh 9 lasts 9;") + many("corner c", 'a', 'e', ";") + "pass 100;");
        due("3000 by 3000", x.odds(0, NONE, 2), 9000000L);
        due("never given: 2400 by 2400", x.odds(0, 0, 2), 5760000L);
        due("given", x.odds(0, 9, 2), 3240000L);
    }

    static void promise16WhatIsGivenGetsOlder() {
        PalmHours x = made("thing a weigh 3 lasts 1;corner c;pass 50;");
        due("given in the second MINUTE", x.odds(0, 3, 2), 100 * 50);
        x = made("thing a weigh 3 lasts 2;corner c;pass 50;");
        due("given in either", x.odds(0, 3, 2), 100 * 100 - 50 * 50);
    }

    static void promise16WithoutThings() {
        PalmHours x = made("corner c;pass 100;");
        due("all rows", x.odds(0, NONE, 1), NONE);
        due("an HOUR", x.odds(0, 0, 1), NONE);
    }

    static void promise16NoneSuch() {
        PalmHours x = made(ODDS);
        due("the last", x.odds(1, 0, 1), 400);
        due("one too many", x.odds(2, 0, 1), NONE);
        due("below 0", x.odds(-1, 0, 1), NONE);
        due("all rows of none such", x.odds(2, NONE, 1), NONE);
        for (int far : FAR) {
            due("corner " + far, x.odds(far, 0, 1), NONE);
        }
    }

    static void promise16BeyondMinute9999() {
        PalmHours x = at(9997, "thing a weigh 3 lasts 2;corner c;");
        due("two", x.odds(0, 0, 2), 10000);
        x.minutes(1);
        due("one", x.odds(0, 0, 1), 100);
        due("two", x.odds(0, 0, 2), NONE);
        x.minutes(1);
        due("one", x.odds(0, NONE, 1), NONE);
    }

    // ---- promises 17 to 19: walks

    static void promise17FromACornerToItself() {
        PalmHours x = made("corner a;corner b;corner c;road a to b steps 1;");
        for (int corner = 0; corner < 3; corner++) {
            due("0", x.way(corner, corner), 0);
        }
    }

    static void promise17WithoutOne() {
        PalmHours x = made("corner a;corner b;corner c;corner d;road a to b steps 1;road c to d steps 1;");
        due("two parts", x.way(0, 2), NONE);
        due("two parts", x.way(3, 1), NONE);
    }

    static void promise17TheLongest() {
        PalmHours x = made(many("corner c", 'a', 'e', ";") + "road cd to ce steps 30;road cc to cd steps 30;road cb to cc steps 30;"
            + "road ca to cb steps 30;");
        due("four ROADS", x.way(0, 4), 120);
        due("and back", x.way(4, 0), 120);
    }

    static void promise17AShorterOneByMoreRoads() {
        PalmHours x = made("corner a;corner b;corner c;road a to b steps 30;road a to c steps 14;road b to c steps 15;");
        due("29", x.way(0, 1), 29);
        x = made("corner a;corner b;corner c;road a to b steps 28;road a to c steps 14;road b to c steps 15;");
        due("28", x.way(0, 1), 28);
    }

    static void promise17NoneSuch() {
        PalmHours x = made(SMALL);
        due("one too many", x.way(0, 3), NONE);
        due("one too many", x.way(3, 0), NONE);
        due("one too many, to itself", x.way(3, 3), NONE);
        due("below 0, to itself", x.way(-1, -1), NONE);
        for (int far : FAR) {
            due("from " + far, x.way(far, 0), NONE);
            due("to " + far, x.way(0, far), NONE);
        }
    }

    static void promise18FromACornerToItself() {
        PalmHours x = made("corner a;says minute;");
        x.minutes(7);
        due("now", x.arrive(0, 0), 7);
    }

    static void promise18MoreThan60() {
        String text = "corner a;corner b;corner c;corner d;road a to b steps 30;road b to c steps 30;road c to d steps 1;says minute/3;";
        due("60", made(text).arrive(0, 2), 20);
        due("61", made(text).arrive(0, 3), NONE);
    }

    static void promise18WithoutAWay() {
        due("none", made("corner a;corner b;").arrive(0, 1), NONE);
    }

    static void promise18BeyondMinute9999() {
        PalmHours x = made("corner a;corner b;road a to b steps 5;says minute-9980;");
        due("on()", on(x, image(39, 10, 255, 0, 0, 255, 0, 0)), true);
        due("at it", x.arrive(0, 1), 19);
        x.minutes(1);
        due("beyond it", x.arrive(0, 1), NONE);
        due("to itself", x.arrive(1, 1), 15);
    }

    static void promise18NoneSuch() {
        PalmHours x = made(SMALL);
        due("one too many", x.arrive(0, 3), NONE);
        due("one too many", x.arrive(3, 0), NONE);
        due("one too many, to itself", x.arrive(3, 3), NONE);
        for (int far : FAR) {
            due("from " + far, x.arrive(far, 0), NONE);
            due("to " + far, x.arrive(0, far), NONE);
        }
    }

    static void promise19SixtyAtMost() {
        due("60", made("corner a;corner b;road a to b steps 30;says if(minute<60,9,8);").early(0), 60);
        due("58 is too soon, 62 too late", made("corner a;corner b;road a to b steps 29;says if(minute<60,9,8);").early(0), NONE);
        due("one step is enough", made("corner a;corner b;road a to b steps 1;says if(minute<60,9,8);").early(0), 60);
    }

    static void promise19TheShortest() {
        due("2", made("corner a;corner b;road a to b steps 1;says 9-minute;").early(0), 2);
        due("3 by three ROADS", made("corner a;corner b;corner c;road a to b steps 1;road b to c steps 1;road c to a steps 1;"
            + "says if(minute=2,9,9-minute);").early(0), 3);
    }

    static void promise19ARoadIsGoneToItsEnd() {
        PalmHours x = made("corner a;corner b;road a to b steps 5;says 20-minute;");
        due("10, not 2", x.early(0), 10);
        x = made("corner a;corner b;corner c;road a to b steps 5;road b to c steps 1;says if(minute=12,1,2);");
        due("by another behind it: 12", x.early(0), 12);
    }

    static void promise19LessThanNow() {
        due("the same is not less", made("corner a;corner b;road a to b steps 1;says 9;").early(0), NONE);
        due("more is not less", made("corner a;corner b;road a to b steps 1;says 9+minute;").early(0), NONE);
        due("nothing is less than 0", made("corner a;corner b;road a to b steps 1;says 0-minute;").early(0), NONE);
        due("less at another CORNER", made("corner a;corner b;road a to b steps 1;says if(corner=1,9-minute,9);").early(0), NONE);
    }

    static void promise19NowIsNotTheFirstMinute() {
        due("5 9 7: not less than 5", made("corner a;corner b;road a to b steps 1;says if(minute=0,5,if(minute=1,9,7));").early(0), NONE);
    }

    static void promise19WithoutRoads() {
        due("none", made("corner a;corner b;corner c;road b to c steps 1;says 9-minute;").early(0), NONE);
    }

    static void promise19NoneSuch() {
        PalmHours x = made(SMALL);
        due("one too many", x.early(3), NONE);
        due("below 0", x.early(-1), NONE);
        for (int far : FAR) {
            due("corner " + far, x.early(far), NONE);
        }
    }

    static void promise19BeyondMinute9999() {
        PalmHours x = made("corner a;corner b;road a to b steps 2;says 9999-minute;");
        due("on()", on(x, image(39, 11, 255, 0, 0, 255, 0, 0)), true);
        due("at it", x.early(0), 4);
        x.minutes(1);
        due("beyond it", x.early(0), NONE);
    }

    // ---- promises 20 to 22: what was held

    static void promise20NoRow() {
        PalmHours x = made(SMALL);
        due("an empty tape", x.see(), NONE);
        due("refused", refusals(x).equals("0 0 0 0 0 1 "), true);
    }

    static void promise20OneToSixteenRows() {
        PalmHours x = made(SMALL);
        due("one", see(x, new int[3]), 1);
        due("sixteen", see(x, new int[48]), 16);
        due("has(8)", x.has(8), 16);
        due("seventeen", see(x, new int[51]), NONE);
        due("the sixteen stay", x.has(8), 16);
    }

    static void promise20NotThreeBytes() {
        PalmHours x = made(SMALL);
        int[] lengths = {1, 2, 4, 5, 46, 47, 49, 50};
        for (int length : lengths) {
            due(length + " bytes", see(x, new int[length]), NONE);
        }
        due("refused", x.status(5), lengths.length);
        due("nothing is SEEN", x.has(8), 0);
    }

    static void promise20MinutesFrom0To40() {
        PalmHours x = made(SMALL);
        due("40", see(x, 40, 0, 0), 1);
        due("41", see(x, 41, 0, 0), NONE);
        due("255", see(x, 255, 0, 0), NONE);
    }

    static void promise20ACornerThatThereIs() {
        PalmHours x = made(SMALL);
        due("2", see(x, 0, 2, 0), 1);
        due("3", see(x, 0, 3, 0), NONE);
        due("255", see(x, 0, 255, 0), NONE);
        due("without CORNERS", see(new PalmHours(), 0, 0, 0), NONE);
    }

    static void promise20AnHourFrom0To23() {
        PalmHours x = made(SMALL);
        due("23", see(x, 0, 0, 23), 1);
        due("24", see(x, 0, 0, 24), NONE);
        due("255", see(x, 0, 0, 255), NONE);
    }

    static void promise20AWrongLastRow() {
        PalmHours x = made(SMALL);
        see(x, 0, 0, 12);
        int[] rows = new int[48];
        rows[47] = 24;
        due("the 16th has a wrong HOUR", see(x, rows), NONE);
        rows[47] = 0;
        rows[45] = 41;
        due("the 16th has wrong MINUTES", see(x, rows), NONE);
        due("the earlier one stays", x.has(8), 1);
        due("the earlier one counts", x.held(0), 2);
    }

    static void promise20TheTapeGoes() {
        PalmHours x = made(SMALL);
        see(x, 0, 0, 0);
        due("it is gone", x.end(1), false);
        see(x, 41, 0, 0);
        due("when refused, too", x.end(1), false);
    }

    static void promise21AllWithoutASee() {
        due("two THINGS, and none", made(SMALL).held(0), 7);
        due("without THINGS", made("corner c;").held(0), 1);
        due("six THINGS", made(many("thing t", 'a', 'f', " weigh 1 lasts 1;") + "corner c;").held(0), 127);
    }

    static void promise21SixteenRows() {
        PalmHours x = made("thing a weigh 3 lasts 15;thing b weigh 3 lasts 16;corner c;");
        int[] rows = new int[48];
        for (int k = 0; k < 16; k++) {
            rows[3 * k] = k;
            rows[3 * k + 2] = 3;
        }
        due("see()", see(x, rows), 16);
        due("the last one tells b from a", x.held(0), 4);
    }

    static void promise21ARowOfAnotherCorner() {
        PalmHours x = made(SMALL);
        see(x, 0, 1, 5, 0, 0, 12);
        due("as it is there", x.held(0), 2);
        see(x, 0, 0, 12, 0, 1, 12);
        due("not as it is there", x.held(0), 0);
        due("but it could be", x.held(1), 2);
    }

    static void promise21NotByAny() {
        PalmHours x = made(SMALL);
        see(x, 0, 0, 7);
        due("no bit", x.held(0), 0);
        see(x, 0, 0, 12, 0, 0, 5);
        due("two that can't be at once", x.held(0), 0);
    }

    static void promise21TheLatestThatWasNotRefused() {
        PalmHours x = made(SMALL);
        see(x, 0, 0, 12);
        see(x, 0, 0, 5);
        due("the latest", x.held(0), 4);
        see(x, 0, 0, 24);
        due("not one that was refused", x.held(0), 4);
    }

    static void promise21OfThisTown() {
        PalmHours x = made(SMALL);
        see(x, 0, 0, 12);
        Check.town(x, "#");
        due("a FAULT leaves it", x.held(0), 2);
        Check.town(x, SMALL);
        due("told again: all", x.held(0), 7);
    }

    static void promise21At40() {
        PalmHours x = made("thing a weigh 3 lasts 40;thing b weigh 3 lasts 41;corner c;");
        see(x, 40, 0, 3);
        due("b", x.held(0), 4);
        see(x, 40, 0, 0);
        due("none, or a", x.held(0), 3);
    }

    static void promise21BeyondMinute9999() {
        PalmHours x = at(9994, "thing a weigh 3 lasts 9;corner c;");
        see(x, 5, 0, 3);
        due("at it", x.held(0), 2);
        x.minutes(1);
        due("beyond it by none", x.held(0), 0);
        see(x, 5, 0, 0);
        due("beyond it by none, whatever the HOUR", x.held(0), 0);
    }

    static void promise21NoneSuch() {
        PalmHours x = made(SMALL);
        due("one too many", x.held(3), NONE);
        due("below 0", x.held(-1), NONE);
        for (int far : FAR) {
            due("corner " + far, x.held(far), NONE);
        }
    }

    static void promise22WithoutAnyLeft() {
        PalmHours x = made(SMALL);
        see(x, 0, 0, 7);
        due("behind how many", x.tells(0, 0), NONE);
        due("how many are left", x.tells(0, 1), NONE);
    }

    static void promise22OneLeft() {
        PalmHours x = made(SMALL);
        see(x, 0, 0, 12);
        due("now", x.tells(0, 0), 0);
        due("one", x.tells(0, 1), 1);
        due("without THINGS", made("corner c;").tells(0, 1), 1);
    }

    static void promise22From0To40() {
        String text = "thing a weigh 3 lasts 99;corner c;";
        PalmHours x = made(text + "says if(held<40,1,weigh);");
        due("40", x.tells(0, 0), 40);
        due("one is left", x.tells(0, 1), 1);
        x = made(text + "says if(held<41,1,weigh);");
        due("41 is too late", x.tells(0, 0), 0);
        due("both are left", x.tells(0, 1), 2);
    }

    static void promise22SixThings() {
        PalmHours x = made(many("thing t", 'a', 'f', " weigh 1 lasts 99;") + "corner c;");
        due("now", x.tells(0, 0), 0);
        due("all but none", x.tells(0, 1), 6);
        x = made(many("thing t", 'a', 'f', " weigh 0 lasts 99;") + "corner c;");
        due("all seven", x.tells(0, 1), 7);
    }

    static void promise22OfLikeOnesTheFirst() {
        PalmHours x = made("thing a weigh 3 lasts 99;corner c;says if(held<5,1,weigh);");
        due("5, not 6", x.tells(0, 0), 5);
    }

    static void promise22TheMostAreFewest() {
        PalmHours x = made("thing a weigh 1 lasts 9;thing b weigh 1 lasts 9;thing e weigh 2 lasts 9;corner c;says if(held=0,min(weigh,1),weigh);");
        // Now 0 1 1 1: three are left at the most; behind 1: 0 1 1 2: two.
        due("behind 1", x.tells(0, 0), 1);
        due("two", x.tells(0, 1), 2);
    }

    static void promise22BeyondMinute9999() {
        String text = "thing a weigh 3 lasts 99;corner c;says if(held<5,1,weigh);";
        PalmHours x = at(9994, text);
        due("at it", x.tells(0, 0), 5);
        x.minutes(1);
        due("beyond it", x.tells(0, 0), 0);
        due("both are left", x.tells(0, 1), 2);
        x.minutes(4);
        due("at 9999 now alone", x.tells(0, 0), 0);
    }

    static void promise22NoneSuchOrOthers() {
        PalmHours x = made(SMALL);
        due("the last", x.tells(2, 1), 1);
        due("one too many", x.tells(3, 0), NONE);
        due("below 0", x.tells(-1, 0), NONE);
        due("another what", x.tells(0, 2), NONE);
        due("another what", x.tells(0, -1), NONE);
        for (int far : FAR) {
            due("corner " + far, x.tells(far, 0), NONE);
            due("what " + far, x.tells(0, far), NONE);
        }
    }
}
