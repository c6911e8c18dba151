/** A method for each promise of the document: ordinary inputs, the edges it names, wrong inputs. */
public final class PromisesTest {
    private static final int NONE = PalmHours.NONE;
    private static final int LEAST = Integer.MIN_VALUE;
    private static final int MOST = Integer.MAX_VALUE;

    /** Three corners in a row, things that weigh 12, 5, 21; without says and gone. */
    private static final String PLAIN = "thing plum weigh 12 lasts 3;thing stone weigh 5 lasts 99;"
        + "thing bird weigh 21 lasts 10;corner ash;corner bay;corner cod;road ash to bay steps 4;"
        + "road bay to cod steps 5;palm ash has plum;palm bay has stone;";

    public static void main(String[] args) {
        promise01();
        promise02();
        promise03();
        promise04();
        promise05Text();
        promise05Names();
        promise05Numbers();
        promise05Depth();
        promise05TooMany();
        promise06();
        promise07();
        promise08();
        promise09();
        promise09Says();
        promise09Gone();
        promise10();
        promise11();
        promise12();
        promise13();
        promise14();
        promise14BehindAnImage();
        promise15();
        promise16();
        promise17();
        promise18();
        promise19();
        promise20();
        promise21();
        promise22();
        promise23();
        promise24();
        promise25();
        promise26();
        promise27();
        promise28();
        promise29();
        promise30();
        promise31();
        promise32();
        promise33();
        Check.close();
    }

    private static void due(String call, long got, long want) {
        Check.due(call, got, want);
    }

    private static void due(String call, boolean got, boolean want) {
        Check.due(call, got, want);
    }

    private static PalmHours made(String text) {
        return Check.made(text);
    }

    private static void promise01() {
        PalmHours x = new PalmHours();
        for (int what = 0; what <= 9; what++) {
            due("1: has " + what, x.has(what), 0);
        }
        due("1: seed", x.has(10), 1);
        due("1: fault", x.fault(0), 0);
        due("1: fault's place", x.fault(1), NONE);
        due("1: no image", x.octet(0), NONE);
        due("1: nothing on the tape", x.end(1), false);
        due("1: NONE", PalmHours.NONE, -1);
        due("1: no corner", x.corner(0, 2), NONE);
        due("1: minutes without a town", x.minutes(3), 0);
        due("1: MINUTE", x.has(4), 3);
        due("1: chance without a town", x.chance(1), 0);
        due("1: one DRAW of 100 all the same", x.has(10), 1103527590);
    }

    private static void promise02() {
        PalmHours x = new PalmHours();
        due("2: feed", x.feed(0x636f726e, 0x65722061, 0x6263643b, 0x0a202020, 0x20202020), 20);
        due("2: the highest byte first", x.town(), 1);
        due("2: letter", x.letter(1, 0, 3), 4);
        for (int k = 1; k <= 80; k++) {
            due("2: feed " + k, x.feed(0x20202020, 0x20202020, 0x20202020, 0x20202020, 0x20202020), 20 * k);
        }
        due("2: more than 1600", x.feed(0, 0, 0, 0, 0), NONE);
        due("2: refused", x.status(0), 1);
        due("2: the tape stays", x.end(1600), true);
        due("2: cut", x.end(1581), true);
        due("2: 1601 bytes", x.feed(0, 0, 0, 0, 0), NONE);
        due("2: cut", x.end(1580), true);
        due("2: 1600 bytes", x.feed(-1, -1, -1, -1, -1), 1600);
        due("2: refused", x.status(0), 2);
        due("2: a byte of 255", x.town(), NONE);
        due("2: place", x.fault(1), 1580);
    }

    private static void promise03() {
        PalmHours x = new PalmHours();
        due("3: empty", x.end(0), true);
        due("3: below 0", x.end(-1), false);
        due("3: not so many", x.end(1), false);
        x.feed(0x636f726e, 0x65722061, 0x3b636f72, 0x6e657220, 0x623b2020);
        due("3: not so many", x.end(21), false);
        due("3: all", x.end(20), true);
        due("3: least", x.end(LEAST), false);
        due("3: most", x.end(MOST), false);
        due("3: refused", x.status(0), 5);
        due("3: nine", x.end(9), true);
        due("3: cut for good", x.end(10), false);
        due("3: the first alone", x.town(), 1);
        due("3: one corner", x.has(1), 1);
    }

    private static void promise04() {
        PalmHours x = new PalmHours();
        due("4: empty", x.town(), 0);
        due("4: blanks", Check.town(x, " \n \n"), 0);
        due("4: without blanks", Check.town(x, "thing a weigh 0 lasts 1;corner c;palm c has a;pass 5;pass 0;"), 5);
        due("4: blanks all over", Check.town(x, "\n thing\na weigh 0099 lasts 1 ;\n\ncorner c ; palm  c has a\n;"), 3);
        due("4: four digits", x.thing(0, 0), 99);
        due("4: eighty", Check.town(x, "pass 1;".repeat(80)), 80);
        x = made(PLAIN + "doing now at ash hour 12;doing tea at cod hour 5;pass 100;");
        x.seed(77);
        x.minutes(2);
        Check.put(x, Check.bytes(1, 1, 5));
        x.see();
        due("4: a fault", Check.town(x, "corner c"), NONE);
        due("4: refused", x.status(1), 1);
        due("4: the tape goes", x.end(1), false);
        due("4: all stays: MINUTE", x.has(4), 2);
        due("4: all stays: corners", x.has(1), 3);
        due("4: all stays: SEEN", x.has(8), 1);
        due("4: all stays: acts", x.has(9), 1);
        due("4: all stays: KEPT", x.has(7), 1);
        due("4: all stays: name", x.letter(1, 0, 0), 1);
        due("4: told again", Check.town(x, PLAIN + "doing now at bay hour 5;"), 11);
        due("4: the tape goes", x.end(1), false);
        due("4: MINUTE", x.has(4), 0);
        due("4: SEEN", x.has(8), 0);
        due("4: acts", x.has(9), 0);
        due("4: KEPT at once", x.has(7), 1);
        due("4: the seed stays", x.has(10), 77);
        due("4: the palm", x.corner(0, 0), 0);
        due("4: held", x.corner(0, 1), 0);
        due("4: fault", x.fault(0), 0);
        x.chance(1);
        due("4: pass is 0 without one", x.corner(0, 1) + x.corner(1, 1) + x.corner(2, 1), 3);
    }

    /** A text with an at-sign where its FAULT is. */
    private static void fault(int kind, String marked) {
        PalmHours x = new PalmHours();
        int place = marked.indexOf('@');
        String text = marked.replace("@", "");
        due("5: town " + text, Check.town(x, text), kind == 0 ? 0 : NONE);
        due("5: fault " + text, x.fault(0), kind);
        due("5: place " + text, x.fault(1), place);
        due("5: another what", x.fault(2), NONE);
        due("5: another what", x.fault(-1), NONE);
        Check.town(x, "pass 1;");
        due("5: of the latest", x.fault(0), 0);
        due("5: of the latest", x.fault(1), NONE);
    }

    private static void promise05Text() {
        fault(1, "@;");
        fault(1, "pass 1;@;");
        fault(1, "@thin");
        fault(1, "@thin g");
        fault(1, "@a");
        fault(1, "@5");
        fault(1, "@#");
        fault(1, "@Thing");
        fault(1, "@\t");
        fault(1, "pass 1@");
        fault(1, "pass 1 \n@");
        fault(1, "pass @");
        fault(1, "pass@1;");
        fault(1, "pass @all;");
        fault(1, "pass @-1;");
        fault(1, "pass 1 @2;");
        fault(1, "pass 1@a;");
        fault(1, "pass 1000@0;");
        fault(1, "pass 1@,");
        fault(1, "corner @thing;");
        fault(1, "corner @max;");
        fault(1, "corner @7;");
        fault(1, "corner abcdef@g;");
        fault(1, "abcdef@gh;");
        fault(1, "1234@5;");
        fault(1, "corner a@B;");
        fault(1, "corner a@1;");
        fault(1, "corner a @b;");
        fault(1, "corner @;");
        fault(1, "thing @weigh 1 lasts 1;");
        fault(1, "corner a;doing @at a hour 1;");
        fault(1, "corner a;doing b at @hour 1;");
        fault(1, "corner a;palm @has a;");
        fault(1, "thing a @lasts");
        fault(1, "thing a weigh 1 @weigh");
        fault(1, "thing a weigh 1@lasts 1;");
        fault(1, "thing a weigh 1 abcdef@g");
        fault(1, "corner a;road @to");
        fault(1, "corner a;road a @a");
        fault(1, "corner a;palm a @is");
        fault(1, "corner a;palm a has @all");
        fault(1, "corner a;doing b @hour");
        fault(1, "corner a;doing b at a @at");
        fault(1, "says @;");
        fault(1, "says 1 @1;");
        fault(1, "says 1+@;");
        fault(1, "says @-1;");
        fault(1, "says (1@;");
        fault(1, "says (@)");
        fault(1, "says @[1];");
        fault(1, "says @all;");
        fault(1, "says @not;");
        fault(1, "says @lasts;");
        fault(1, "says @a;");
        fault(1, "says 1@<2;");
        fault(1, "says min@;");
        fault(1, "says min(1@);");
        fault(1, "says min(1,2@,3);");
        fault(1, "says if(1@,2,3);");
        fault(1, "says if(1<2,3@);");
        fault(1, "says if(1<2,3,4@,5);");
        fault(1, "says if(@lasts");
        fault(1, "gone @;");
        fault(1, "gone 1@;");
        fault(1, "gone @empty=1;");
        fault(1, "gone all @all;");
        fault(1, "gone all and@;");
        fault(1, "gone all or @or");
        fault(1, "gone [all@;");
        fault(1, "gone (1@<2);");
        fault(1, "gone 1<2@<3;");
        fault(1, "gone 1<@=3;");
        fault(1, "gone not@;");
        fault(1, "gone held<1@and all;");
    }

    private static void promise05Names() {
        String two = "thing a weigh 1 lasts 1;corner c;corner d;doing e at c hour 1;";
        fault(2, two + "thing @a");
        fault(2, two + "thing @c weigh");
        fault(2, two + "corner @c;");
        fault(2, two + "corner @a#");
        fault(2, two + "corner @e;");
        fault(2, two + "doing @d at");
        fault(2, two + "doing @a at");
        fault(2, two + "doing @e at");
        fault(3, two + "road @a to");
        fault(3, two + "road @x to");
        fault(3, two + "road @e to");
        fault(3, two + "road c to @x");
        fault(3, two + "road c to @a steps");
        fault(3, two + "road c to @c steps");
        fault(3, two + "road c to d steps 1;road c to @d steps 2;");
        fault(3, two + "road c to d steps 1;road d to @c steps 2;");
        fault(3, two + "palm @x");
        fault(3, two + "palm @a");
        fault(3, two + "palm c has @c");
        fault(3, two + "palm c has @x;");
        fault(3, two + "palm c has a;palm @c has a;");
        fault(3, two + "doing f at @x");
        fault(3, two + "doing f at @a");
        fault(3, two + "doing f at @f");
        fault(3, "palm @c has a;thing a weigh 1 lasts 1;corner c;");
    }

    private static void promise05Numbers() {
        fault(4, "thing a weigh @100 lasts 1;");
        fault(4, "thing a weigh @9999");
        fault(4, "thing a weigh 1 lasts @0;");
        fault(4, "thing a weigh 1 lasts @0000;");
        fault(4, "thing a weigh 1 lasts @100;");
        fault(4, "corner c;corner d;road c to d steps @0;");
        fault(4, "corner c;corner d;road c to d steps @31;");
        fault(4, "corner c;doing d at c hour @24;");
        fault(4, "pass @101;");
        fault(4, "pass @101x");
        PalmHours x = made("thing a weigh 99 lasts 99;thing b weigh 0 lasts 1;corner c;corner d;"
            + "road c to d steps 30;doing e at c hour 23;doing f at c hour 0;pass 100;says 9999;");
        due("5: the edges are good", x.fault(0), 0);
    }

    private static void promise05Depth() {
        fault(5, "says (((((((@(1");
        fault(5, "says min(min(min(min(min(min(min(min@(1");
        fault(5, "says if([[[[[[@[all");
        fault(5, "gone not not not not not not not @not all;");
        fault(5, "gone not [not [not [not @[all");
        fault(5, "gone not not not not (((@(1");
        fault(5, "says min(1,((((((@(1");
        fault(5, "says max(1,((((((@(1");
        fault(5, "says if(all,((((((@(1");
        fault(5, "says if(all,1,((((((@(1");
        fault(5, "says 1+2*(((((((@(1");
        fault(5, "gone all or (((((((@(1");
        fault(5, "gone all and (((((((@(1");
        fault(5, "gone 1<(((((((@(1");
        fault(1, "says (((((((1@(");
        fault(1, "says (((((((1)))))))@)");
        fault(1, "gone not not not not not not not@");
        due("5: seven are good", made("says (((((((7)))))));").has(0), 0);
        due("5: seven, then again", made("says (((((((7)))))))+(((((((7)))))));").has(0), 0);
        due("5: not ends with its FACT", made("gone not not not not not not not all and not all;").has(0), 0);
        due("5: not ends ahead of or", made("gone not not not not not not not 1<2 or (((((((1)))))))<2;").has(0), 0);
        due("5: one after the other", made("gone [[not [all]] or not [all and [not all]]];").has(0), 0);
    }

    private static void promise05TooMany() {
        StringBuilder things = new StringBuilder();
        StringBuilder corners = new StringBuilder();
        StringBuilder roads = new StringBuilder();
        StringBuilder doings = new StringBuilder();
        for (char a = 'a'; a < 'g'; a++) {
            things.append("thing t").append(a).append(" weigh 1 lasts 1;");
            doings.append("doing d").append(a).append(" at ca hour 1;");
        }
        for (char a = 'a'; a < 'f'; a++) {
            corners.append("corner c").append(a).append(';');
            for (char b = 'a'; b < a; b++) {
                roads.append("road c").append(a).append(" to c").append(b).append(" steps 1;");
            }
        }
        fault(6, things + "@thing");
        fault(6, corners + "@corner ca;");
        fault(6, corners.toString() + roads + "@road ca to");
        fault(6, corners.toString() + doings + "@doing#");
        fault(6, "says 1;@says 1;");
        fault(6, "gone all;@gone#");
        fault(6, "pass 1;".repeat(80) + "@pass 1;");
        fault(6, "pass 1;".repeat(80) + "\n @x");
        fault(1, "pass 1;".repeat(79) + "@x");
        fault(1, "pass 1;".repeat(79) + "pass 1@");
        due("5: all of all", made(things.toString() + corners + roads + doings + "says 1;gone all;pass 1;").has(2), 10);
    }

    private static void promise06() {
        PalmHours x = made(PLAIN + "doing noon at ash hour 12;doing tea at cod hour 5;pass 1;");
        due("6: THINGS", x.has(0), 3);
        due("6: CORNERS", x.has(1), 3);
        due("6: ROADS", x.has(2), 2);
        due("6: DOINGS", x.has(3), 2);
        due("6: MINUTE", x.has(4), 0);
        due("6: done", x.has(5), 1);
        due("6: empty palms", x.has(6), 1);
        due("6: KEPT", x.has(7), 1);
        due("6: SEEN", x.has(8), 0);
        due("6: ACTS", x.has(9), 0);
        due("6: seed", x.has(10), 1);
        x.minutes(3);
        x.give(2, 1);
        due("6: MINUTE", x.has(4), 3);
        due("6: done", x.has(5), 2);
        due("6: empty palms", x.has(6), 1);
        due("6: KEPT", x.has(7), 2);
        due("6: ACTS", x.has(9), 2);
        for (int k = 0; k < 30; k++) {
            x.minutes(1);
        }
        due("6: ACTS, 20 at most", x.has(9), 20);
        due("6: others", x.has(11), NONE);
        due("6: others", x.has(-1), NONE);
        due("6: others", x.has(LEAST), NONE);
        due("6: others", x.has(MOST), NONE);
    }

    private static void promise07() {
        PalmHours x = made("thing azbycx weigh 1 lasts 1;corner q;doing zz at q hour 2;");
        int[] letters = {1, 26, 2, 25, 3, 24};
        for (int k = 0; k < 6; k++) {
            due("7: thing " + k, x.letter(0, 0, k), letters[k]);
            due("7: corner " + k, x.letter(1, 0, k), k == 0 ? 17 : 0);
            due("7: doing " + k, x.letter(2, 0, k), k < 2 ? 26 : 0);
        }
        due("7: k", x.letter(0, 0, 6), NONE);
        due("7: k", x.letter(0, 0, -1), NONE);
        due("7: which", x.letter(0, 1, 0), NONE);
        due("7: which", x.letter(1, -1, 0), NONE);
        due("7: which", x.letter(2, MOST, 0), NONE);
        due("7: kind", x.letter(3, 0, 0), NONE);
        due("7: kind", x.letter(-1, 0, 0), NONE);
    }

    private static void promise08() {
        PalmHours x = made(PLAIN);
        due("8: weigh", x.thing(0, 0), 12);
        due("8: lasts", x.thing(0, 1), 3);
        due("8: weigh", x.thing(2, 0), 21);
        due("8: lasts", x.thing(1, 1), 99);
        due("8: none such", x.thing(3, 0), NONE);
        due("8: none such", x.thing(-1, 0), NONE);
        due("8: others", x.thing(0, 2), NONE);
        due("8: others", x.thing(0, -1), NONE);
    }

    private static void promise09() {
        PalmHours x = made(PLAIN);
        due("9: THING", x.corner(0, 0), 0);
        due("9: HOUR is the weight", x.corner(0, 2), 12);
        due("9: empty", x.corner(2, 0), NONE);
        due("9: 0 without a THING", x.corner(2, 2), 0);
        x.minutes(2);
        due("9: held", x.corner(0, 1), 2);
        due("9: held for its time less one", x.corner(0, 0), 0);
        x.minutes(1);
        due("9: gone", x.corner(0, 0), NONE);
        due("9: empty since now", x.corner(0, 1), 0);
        due("9: empty for long", x.corner(2, 1), 3);
        x.minutes(5);
        due("9: empty, longer", x.corner(0, 1), 5);
        due("9: none such", x.corner(3, 0), NONE);
        due("9: none such", x.corner(-1, 1), NONE);
        due("9: others", x.corner(0, 3), NONE);
        due("9: others", x.corner(0, -1), NONE);
        x = made("thing a weigh 99 lasts 1;corner c;palm c has a;gone minute>1000;");
        due("9: above 23", x.corner(0, 2), 23);
        for (int k = 0; k < 10; k++) {
            x.minutes(100);
        }
        due("9: held 999 at most", x.corner(0, 1), 999);
        due("9: still there", x.corner(0, 0), 0);
        x.minutes(1);
        due("9: gone", x.corner(0, 0), NONE);
        for (int k = 0; k < 10; k++) {
            x.minutes(100);
        }
        due("9: empty 999 at most", x.corner(0, 1), 999);
    }

    private static void says(String sum, int want) {
        PalmHours x = made("thing a weigh 7 lasts 50;corner b;corner c;palm c has a;says " + sum + ";");
        x.minutes(3);
        due("9: says " + sum, x.corner(1, 2), want);
    }

    private static void promise09Says() {
        says("weigh", 7);
        says("held", 3);
        says("corner", 1);
        says("minute+10", 13);
        says("empty", 0);
        says("1-empty", 1);
        says("2+3*4", 14);
        says("(2+3)*4", 20);
        says("20-5-3", 12);
        says("20-(5-3)", 18);
        says("100/5/2", 10);
        says("17%10*3", 21);
        says("7/2", 3);
        says("10+(0-7)/2", 6);
        says("10+(0-7)%2", 11);
        says("10+7/(0-2)", 6);
        says("10+7%(0-2)", 9);
        says("10+5/0", 10);
        says("10+5%0", 10);
        says("0-5", 0);
        says("23", 23);
        says("24", 23);
        says("9999*9999/1000/1000", 1);
        says("9999*9999/1000/100", 10);
        says("9999*9999-9999*100-90", 10);
        says("(0-9999)*9999+9999*100+105", 5);
        says("999*1000+9999-9999*99-9999-80", 20);
        says("999*1000+9999-9999*100-90", 10);
        says("(0-999)*1000-9999+9999*100+105", 5);
        says("min(3,5)+max(3,5)*2", 13);
        says("min(3,0-5)+6", 1);
        says("if(1<2,3,4)", 3);
        says("if(2<2,3,4)", 4);
        says("if(2>2,3,4)", 4);
        says("if(3>2,3,4)", 3);
        says("if(2=2,3,4)", 3);
        says("if(all,3,4)", 3);
        says("if(not all,3,4)", 4);
        says("if(not 1=2 and 1=2,3,4)", 4);
        says("if(not [1=2 and 1=2],3,4)", 3);
        says("if(all or all and not all,3,4)", 3);
        says("if([all or all] and not all,3,4)", 4);
        says("if(not not all,3,4)", 3);
        says("if(1+1=2,if(weigh>9,1,2),3)+if(all,10,20)", 12);
        PalmHours x = made("thing a weigh 7 lasts 50;corner b;says empty*10+held+weigh;");
        due("9: empty", x.corner(0, 2), 10);
        x.minutes(4);
        due("9: empty for long", x.corner(0, 2), 14);
        due("9: given", x.give(0, 0), 7);
    }

    /** Behind how many MINUTES the THING is gone by a TEST. */
    private static void gone(String test, int want) {
        PalmHours x = made("thing a weigh 7 lasts 5;corner b;corner c;palm c has a;" + test);
        int behind = 0;
        for (int k = 1; k <= 20 && behind == 0; k++) {
            x.minutes(1);
            behind = x.corner(1, 0) == NONE ? k : 0;
        }
        due("9: " + test, behind, want);
    }

    private static void promise09Gone() {
        gone("", 5);
        gone("gone all;", 1);
        gone("gone held>lasts;", 6);
        gone("gone held=weigh;", 7);
        gone("gone minute*corner=9;", 9);
        gone("gone corner=0;", 0);
        gone("gone not [held<3 or minute<8];", 8);
        gone("gone held>2 and minute%6=0;", 6);
        gone("gone minute>3 or held>1;", 2);
    }

    private static void promise10() {
        PalmHours x = made(PLAIN + "doing noon at ash hour 12;doing tea at cod hour 5;doing nap at bay hour 23;");
        due("10: corner", x.doing(1, 0), 2);
        due("10: hour", x.doing(2, 1), 23);
        due("10: done at first", x.doing(0, 2), 1);
        due("10: not done", x.doing(1, 2), 0);
        x.give(2, 1);
        due("10: done behind what is given", x.doing(1, 2), 1);
        x.take(2);
        x.minutes(9);
        due("10: it stays done", x.doing(1, 2), 1);
        due("10: none such", x.doing(3, 0), NONE);
        due("10: none such", x.doing(-1, 0), NONE);
        due("10: others", x.doing(0, 3), NONE);
        due("10: others", x.doing(0, -1), NONE);
        x = made("thing a weigh 7 lasts 2;corner c;palm c has a;doing d at c hour 0;doing e at c hour 7;");
        due("10: not yet", x.doing(0, 2), 0);
        x.take(0);
        due("10: done behind what is taken", x.doing(0, 2), 1);
    }

    private static void promise11() {
        PalmHours x = made(PLAIN + "says weigh+minute%2;");
        due("11: now", x.later(0, 0), 12);
        due("11: one", x.later(0, 1), 13);
        due("11: two", x.later(0, 2), 12);
        due("11: gone", x.later(0, 3), 1);
        due("11: sixty", x.later(1, 60), 5);
        due("11: 61", x.later(1, 61), NONE);
        due("11: -1", x.later(1, -1), NONE);
        due("11: none such", x.later(3, 0), NONE);
        due("11: none such", x.later(-1, 0), NONE);
        due("11: nothing goes by", x.has(4), 0);
        toMinute(x, 9990);
        due("11: MINUTE 9999", x.later(2, 9), 1);
        due("11: beyond", x.later(2, 10), NONE);
    }

    private static void toMinute(PalmHours x, int minute) {
        while (x.has(4) + 100 <= minute) {
            x.minutes(100);
        }
        if (x.has(4) < minute) {
            x.minutes(minute - x.has(4));
        }
        due("MINUTE", x.has(4), minute);
    }

    private static void promise12() {
        PalmHours x = made("thing a weigh 7 lasts 9;corner c;palm c has a;says minute/6;doing d at c hour 0;"
            + "doing e at c hour 5;doing f at c hour 10;doing g at c hour 11;");
        due("12: done", x.when(0), 0);
        due("12: ahead", x.when(1), 30);
        due("12: sixty", x.when(2), 60);
        due("12: beyond sixty", x.when(3), NONE);
        due("12: none such", x.when(4), NONE);
        due("12: none such", x.when(-1), NONE);
        due("12: it is not done by that", x.doing(1, 2), 0);
        x.minutes(10);
        due("12: ahead from now on", x.when(1), 20);
        x = made("corner c;says minute/400;doing d at c hour 22;doing e at c hour 23;");
        toMinute(x, 8790);
        due("12: ahead", x.when(0), 10);
        x = made("corner c;says minute-9980;doing d at c hour 19;doing e at c hour 20;");
        toMinute(x, 9970);
        due("12: at 9999", x.when(0), 29);
        due("12: beyond 9999", x.when(1), NONE);
        x = made("corner c;says minute%5;doing d at c hour 0;");
        x.image();
        Check.put(x, Check.bytes(0, 0, 255, 0, 0, 0, check(0, 0, 255, 0, 0, 0)));
        due("12: an image in which it is not done", x.on(), true);
        due("12: its hour is told, but it is done behind a MINUTE", x.when(0), 5);
    }

    private static int check(int... bytes) {
        int c = 227;
        for (int b : bytes) {
            c = (5 * c + b) % 251;
        }
        return c;
    }

    private static void promise13() {
        PalmHours x = made("corner b;corner c;corner d;says if(corner=0,5,if(corner=1,minute/10,23-minute/3));");
        due("13: ahead", x.alike(0, 1), 50);
        due("13: the other way", x.alike(1, 0), 50);
        due("13: ahead", x.alike(0, 2), 54);
        due("13: ahead", x.alike(1, 2), 54);
        due("13: one", x.alike(1, 1), NONE);
        due("13: none such", x.alike(0, 3), NONE);
        due("13: none such", x.alike(-1, 0), NONE);
        x.minutes(50);
        due("13: now", x.alike(0, 1), 0);
        x = made("corner b;corner c;says if(corner=0,6,minute/10);");
        due("13: sixty", x.alike(0, 1), 60);
        x = made("corner b;corner c;says if(corner=0,7,minute/10);");
        due("13: more than sixty", x.alike(0, 1), NONE);
        x = made("corner b;corner c;says if(corner=0,20,minute-9980);");
        toMinute(x, 9980);
        due("13: beyond 9999", x.alike(0, 1), NONE);
        x = made("corner b;corner c;says if(corner=0,19,minute-9980);");
        toMinute(x, 9980);
        due("13: at 9999", x.alike(0, 1), 19);
    }

    private static void promise14() {
        PalmHours x = made("thing a weigh 3 lasts 4;thing b weigh 5 lasts 9;thing e weigh 5 lasts 3;"
            + "corner ca;corner cb;corner cc;palm ca has a;"
            + "doing da at ca hour 5;doing db at cb hour 3;doing dc at cc hour 5;doing dd at cc hour 0;doing de at ca hour 6;"
            + "says weigh;");
        due("14: nothing asked", x.plan(0, 0, NONE), 0);
        due("14: done at once", x.plan(8, 0, NONE), 0);
        due("14: one", x.plan(1, 0, NONE), 1);
        due("14: the first of like ones", x.plan(1, 0, 0), 1);
        due("14: none for another", x.plan(1, 0, 1), NONE);
        due("14: three", x.plan(7, 0, NONE), 3);
        due("14: three", x.plan(7, 0, 0), 1);
        due("14: three", x.plan(7, 0, 1), 0);
        due("14: three", x.plan(7, 20, 2), 1);
        due("14: not by any", x.plan(16, 20, NONE), NONE);
        due("14: not by any", x.plan(17, 20, 0), NONE);
        due("14: no such DOING", x.plan(32, 0, NONE), NONE);
        due("14: no such DOING", x.plan(-1, 0, NONE), NONE);
        due("14: no such DOING", x.plan(LEAST, 0, NONE), NONE);
        due("14: no such CORNER", x.plan(1, 0, 3), NONE);
        due("14: no such CORNER", x.plan(1, 0, -2), NONE);
        due("14: n", x.plan(1, 21, NONE), NONE);
        due("14: n", x.plan(1, -1, NONE), NONE);
        due("14: nothing is given by that", x.corner(1, 0), NONE);
        x = made("thing a weigh 3 lasts 9;thing b weigh 2 lasts 9;corner c;palm c has a;says weigh+held;"
            + "doing d at c hour 6;doing e at c hour 2;doing f at c hour 4;");
        due("14: it comes without", x.plan(1, 3, NONE), 0);
        due("14: too soon for that", x.plan(1, 2, NONE), NONE);
        due("14: behind four", x.plan(3, 4, NONE), 1);
        due("14: by the second THING", x.plan(3, 4, 0), 1);
        due("14: behind three it is not", x.plan(3, 3, NONE), NONE);
        due("14: the held one does it", x.plan(4, 1, NONE), 0);
        toMinute(x, 9998);
        due("14: beyond 9999", x.plan(0, 2, NONE), NONE);
        due("14: at 9999", x.plan(0, 1, NONE), 0);
    }

    private static void promise14BehindAnImage() {
        String text = "thing a weigh 3 lasts 9;thing b weigh 2 lasts 9;corner c;corner d;palm c has a;"
            + "doing e at c hour 3;says if(minute=0,weigh,20);";
        PalmHours x = made(text);
        Check.put(x, Check.bytes(0, 0, 0, 0, 0, 255, 0, 0, 0, check(0, 0, 0, 0, 0, 255, 0, 0, 0)));
        due("14: the image", x.on(), true);
        due("14: not done by nothing: a THING must be given", x.plan(1, 0, NONE), 1);
        due("14: the first row has it at the last CORNER", x.plan(1, 0, 0), NONE);
        due("14: the first row has it at the last CORNER", x.plan(1, 0, 1), 0);
        due("14: the same behind twenty", x.plan(1, 20, 1), 0);
        x.give(1, 1);
        due("14: it was so", x.doing(0, 2), 1);
        x = made("thing a weigh 3 lasts 9;corner c;corner d;doing e at d hour 0;says weigh;");
        Check.put(x, Check.bytes(0, 0, 255, 0, 0, 255, 0, 0, 0, check(0, 0, 255, 0, 0, 255, 0, 0, 0)));
        due("14: the image", x.on(), true);
        due("14: the first CORNER, since the last one must stay empty", x.plan(1, 0, 0), 0);
        due("14: the first CORNER, since the last one must stay empty", x.plan(1, 0, 1), NONE);
        due("14: a MINUTE does it, too", x.plan(1, 1, NONE), 0);
        x = made("thing a weigh 3 lasts 9;corner c;doing e at c hour 0;says weigh;");
        Check.put(x, Check.bytes(0, 0, 255, 0, 0, 0, check(0, 0, 255, 0, 0, 0)));
        due("14: the image", x.on(), true);
        due("14: nothing can be given", x.plan(1, 0, NONE), NONE);
    }

    private static void promise15() {
        PalmHours x = made("thing a weigh 3 lasts 4;thing b weigh 5 lasts 9;thing e weigh 7 lasts 9;corner c;");
        due("15: the THING", x.evening(0, 0), 1);
        due("15: how long", x.evening(0, 1), 8);
        due("15: others", x.evening(0, 2), NONE);
        due("15: others", x.evening(0, -1), NONE);
        due("15: none such", x.evening(1, 0), NONE);
        due("15: none such", x.evening(-1, 0), NONE);
        due("15: without THINGS", made("corner c;").evening(0, 0), NONE);
        x = made("thing a weigh 0 lasts 1;thing b weigh 5 lasts 70;corner c;says weigh;");
        due("15: it counts from the first on, 60 at most", x.evening(0, 1), 60);
        due("15: the same HOUR by none", x.evening(0, 0), 0);
        x = made("thing a weigh 3 lasts 99;thing b weigh 5 lasts 99;corner c;says weigh+held%weigh;");
        due("15: it comes back, but not one after the other", x.evening(0, 1), 0);
        toMinute(x, 9999);
        due("15: at 9999", x.evening(0, 1), 0);
        x = made("thing a weigh 3 lasts 99;corner c;");
        toMinute(x, 9990);
        due("15: up to 9999", x.evening(0, 1), 9);
    }

    private static void promise16() {
        PalmHours x = made("thing a weigh 3 lasts 2;thing b weigh 5 lasts 1;corner c;corner d;palm c has a;pass 30;");
        due("16: all rows", x.odds(0, NONE, 1), 400);
        due("16: all rows", x.odds(0, NONE, 2), 160000);
        due("16: not given here", x.odds(0, 3, 1), 70 * 4 + 30 * 2 + 30);
        due("16: given here", x.odds(0, 5, 1), 30);
        due("16: none", x.odds(0, 0, 1), 0);
        due("16: empty", x.odds(1, 0, 1), 70 * 4 + 30 * 2);
        due("16: two, a", x.odds(0, 3, 2), 340 * 30 + 30 * (340 + 30) + 30 * 30);
        due("16: two, b", x.odds(0, 5, 2), 400 * 30);
        due("16: two, none", x.odds(0, 0, 2), 340 * 340 + 30 * 340);
        due("16: another", x.odds(0, 23, 2), 0);
        due("16: hour", x.odds(0, 24, 1), NONE);
        due("16: hour", x.odds(0, -2, 1), NONE);
        due("16: n", x.odds(0, 3, 0), NONE);
        due("16: n", x.odds(0, 3, 3), NONE);
        due("16: none such", x.odds(2, 3, 1), NONE);
        due("16: none such", x.odds(-1, NONE, 1), NONE);
        due("16: without THINGS", made("corner c;").odds(0, NONE, 1), NONE);
        due("16: nothing goes by", x.has(4), 0);
        due("16: the seed stays", x.has(10), 1);
        toMinute(x, 9998);
        due("16: at 9999", x.odds(0, NONE, 1), 400);
        due("16: beyond 9999", x.odds(0, NONE, 2), NONE);
        x = made("thing a weigh 3 lasts 2;corner c;");
        due("16: without pass", x.odds(0, 3, 2), 0);
        due("16: without pass", x.odds(0, 0, 2), 10000);
    }

    private static void promise17() {
        PalmHours x = made("corner a;corner b;corner c;corner d;corner e;road a to b steps 30;road c to a steps 9;"
            + "road b to c steps 20;road b to d steps 1;");
        due("17: itself", x.way(3, 3), 0);
        due("17: itself without roads", x.way(4, 4), 0);
        due("17: by another", x.way(0, 1), 29);
        due("17: back", x.way(1, 0), 29);
        due("17: three roads", x.way(0, 3), 30);
        due("17: without one", x.way(0, 4), NONE);
        due("17: none such", x.way(0, 5), NONE);
        due("17: none such", x.way(-1, 0), NONE);
        due("17: none such", x.way(5, 5), NONE);
    }

    private static void promise18() {
        PalmHours x = made("corner a;corner b;corner c;corner d;road a to b steps 30;road b to c steps 30;"
            + "road c to d steps 1;says corner*10+minute/30;");
        due("18: now", x.arrive(1, 1), 10);
        due("18: thirty", x.arrive(0, 1), 11);
        due("18: sixty", x.arrive(0, 2), 22);
        due("18: 61", x.arrive(0, 3), NONE);
        due("18: back", x.arrive(2, 0), 2);
        due("18: none such", x.arrive(0, 4), NONE);
        due("18: none such", x.arrive(-1, 0), NONE);
        due("18: without a WAY", made("corner a;corner b;").arrive(0, 1), NONE);
        toMinute(x, 9969);
        due("18: at 9999", x.arrive(0, 1), 23);
        x.minutes(1);
        due("18: beyond 9999", x.arrive(0, 1), NONE);
        due("18: at once", x.arrive(0, 0), 23);
    }

    private static void promise19() {
        PalmHours x = made("corner a;corner b;corner c;road a to b steps 3;road b to c steps 4;road c to a steps 2;"
            + "says 20-minute;");
        due("19: there and back", x.early(0), 4);
        due("19: there and back", x.early(1), 6);
        due("19: there and back", x.early(2), 4);
        due("19: none such", x.early(3), NONE);
        due("19: none such", x.early(-1), NONE);
        x = made("corner a;corner b;corner c;road a to b steps 3;road b to c steps 4;road c to a steps 2;"
            + "says if(minute=9,4,5);");
        due("19: around", x.early(0), 9);
        x = made("corner a;corner b;road a to b steps 3;says if(minute=0,5,if(minute=18,4,if(minute=17,1,5)));");
        due("19: to and fro thrice", x.early(0), 18);
        x = made("corner a;corner b;road a to b steps 30;says 99-minute;");
        due("19: not less at the top", x.early(0), NONE);
        x = made("corner a;corner b;road a to b steps 30;says 23-minute/60;");
        due("19: sixty", x.early(0), 60);
        x.minutes(1);
        due("19: from now on", x.early(0), 60);
        toMinute(x, 9980);
        due("19: not less than 0", x.early(0), NONE);
        due("19: without roads", made("corner a;says 20-minute;").early(0), NONE);
        x = made("corner a;corner b;road a to b steps 5;says 9999-minute;");
        toMinute(x, 9989);
        due("19: at 9999", x.early(0), 10);
        x.minutes(1);
        due("19: beyond 9999", x.early(0), NONE);
    }

    private static void promise20() {
        PalmHours x = made(PLAIN);
        due("20: no row", x.see(), NONE);
        Check.put(x, Check.bytes(0, 0, 23, 40, 2, 0));
        due("20: two rows", x.see(), 2);
        due("20: the tape goes", x.end(1), false);
        due("20: rows", x.has(8), 2);
        int[][] wrong = {{41, 0, 0}, {0, 3, 0}, {0, 0, 24}, {0, 255, 0}, {255, 0, 0}, {0, 0}, {0, 0, 1, 0},
            {0, 0, 1, 0, 0}, {0, 0, 1, 0, 3, 1}, new int[51], new int[49]};
        for (int[] row : wrong) {
            Check.put(x, Check.bytes(row));
            due("20: " + row.length + " bytes", x.see(), NONE);
            due("20: the tape goes", x.end(1), false);
            due("20: the earlier one stays", x.has(8), 2);
        }
        due("20: refused", x.status(5), 1 + wrong.length);
        Check.put(x, Check.bytes(new int[48]));
        due("20: sixteen", x.see(), 16);
        Check.put(x, Check.bytes(1, 1, 1));
        due("20: the latest counts", x.see(), 1);
        due("20: rows", x.has(8), 1);
    }

    private static void seen(PalmHours x, int... rows) {
        Check.put(x, Check.bytes(rows));
        due("see()", x.see(), rows.length / 3);
    }

    private static void promise21() {
        PalmHours x = made("thing a weigh 3 lasts 2;thing b weigh 3 lasts 4;thing e weigh 5 lasts 2;corner c;corner d;palm d has b;");
        due("21: all", x.held(0), 15);
        seen(x, 0, 0, 3);
        due("21: a or b", x.held(0), 6);
        seen(x, 0, 0, 3, 2, 0, 3);
        due("21: b", x.held(0), 4);
        seen(x, 2, 0, 0);
        due("21: none, a, e", x.held(0), 11);
        seen(x, 0, 0, 9);
        due("21: not by any", x.held(0), 0);
        due("21: not so at the other CORNER", x.held(1), 0);
        seen(x, 0, 0, 0, 3, 1, 3);
        due("21: other CORNERS as they are", x.held(0), 1);
        due("21: other CORNERS as they are", x.held(1), 4);
        seen(x, 0, 0, 0, 3, 1, 0);
        due("21: not so at the other CORNER", x.held(0), 0);
        due("21: but it could be", x.held(1), 11);
        Check.put(x, Check.bytes(99, 0, 0));
        due("21: refused", x.see(), NONE);
        due("21: the earlier one counts", x.held(1), 11);
        due("21: none such", x.held(2), NONE);
        due("21: none such", x.held(-1), NONE);
        due("21: nothing is given", x.corner(0, 0), NONE);
        Check.town(x, "corner c;");
        due("21: all of another TOWN", x.held(0), 1);
        x = made("thing a weigh 3 lasts 9;corner c;palm c has a;says weigh+held;");
        seen(x, 2, 0, 2);
        x.minutes(5);
        due("21: from now on, empty since now", x.held(0), 1);
        seen(x, 2, 0, 5);
        due("21: given now", x.held(0), 2);
        toMinute(x, 9997);
        due("21: at 9999", x.held(0), 2);
        x.minutes(1);
        due("21: beyond 9999 by none", x.held(0), 0);
    }

    private static void promise22() {
        PalmHours x = made("thing a weigh 3 lasts 2;thing b weigh 3 lasts 4;thing e weigh 5 lasts 9;corner c;corner d;");
        // By none 0, by a 3 3 0, by b 3 3 3 3 0, by e 5: two are alike now and behind 2, too.
        due("22: the first of like ones", x.tells(0, 0), 0);
        due("22: two are left", x.tells(0, 1), 2);
        due("22: others", x.tells(0, 2), NONE);
        due("22: others", x.tells(0, -1), NONE);
        due("22: none such", x.tells(2, 0), NONE);
        due("22: none such", x.tells(-1, 0), NONE);
        seen(x, 0, 0, 3);
        due("22: of a or b", x.tells(0, 0), 2);
        due("22: of a or b one is left", x.tells(0, 1), 1);
        seen(x, 0, 0, 4);
        due("22: without any left", x.tells(0, 0), NONE);
        due("22: without any left", x.tells(0, 1), NONE);
        x = made("thing a weigh 3 lasts 60;corner c;says if(held<41,1,weigh);");
        due("22: not beyond forty", x.tells(0, 0), 0);
        due("22: not beyond forty", x.tells(0, 1), 2);
        x = made("thing a weigh 3 lasts 50;corner c;says if(held<40,1,weigh);");
        due("22: forty", x.tells(0, 0), 40);
        due("22: forty", x.tells(0, 1), 1);
        toMinute(x, 9960);
        due("22: beyond 9999", x.tells(0, 0), 0);
        due("22: beyond 9999", x.tells(0, 1), 2);
    }

    private static void promise23() {
        PalmHours x = made("thing a weigh 3 lasts 9;corner c;palm c has a;says weigh+held;doing d at c hour 5;"
            + "doing e at c hour 4;doing f at c hour 0;");
        due("23: two are done", x.minutes(2), 2);
        due("23: MINUTE", x.has(4), 2);
        due("23: in order", x.kept(0, 1), 1);
        due("23: 0", x.minutes(0), NONE);
        due("23: 101", x.minutes(101), NONE);
        due("23: -1", x.minutes(-1), NONE);
        due("23: least", x.minutes(LEAST), NONE);
        due("23: most", x.minutes(MOST), NONE);
        due("23: refused", x.status(2), 5);
        due("23: nothing went by", x.has(4), 2);
        due("23: 100", x.minutes(100), 1);
        due("23: gone at 9", x.kept(2, 0), 9);
        due("23: without DRAWS", x.has(10), 1);
        due("23: one ACT each", x.has(9), 2);
        toMinute(x, 9950);
        due("23: beyond 9999", x.minutes(50), NONE);
        due("23: at 9999", x.minutes(49), 0);
        due("23: beyond 9999", x.minutes(1), NONE);
        due("23: MINUTE", x.has(4), 9999);
        due("23: refused", x.status(2), 7);
    }

    private static void promise24() {
        PalmHours x = made("thing a weigh 3 lasts 9;thing b weigh 5 lasts 2;corner c;corner d;corner e;pass 100;"
            + "doing f at c hour 3;doing g at c hour 5;doing h at d hour 3;doing i at d hour 5;doing j at e hour 3;doing k at e hour 5;");
        long[] seed = {4};
        x.seed(4);
        draw(seed, 100);
        int corner = draw(seed, 3);
        int thing = draw(seed, 2);
        due("24: given", x.chance(1), 1);
        due("24: the THING", x.corner(corner, 0), thing);
        due("24: held", x.corner(corner, 1), 0);
        due("24: the others are older", x.corner(0, 1) + x.corner(1, 1) + x.corner(2, 1), 2);
        due("24: the seed", x.has(10), seed[0]);
        due("24: MINUTE", x.has(4), 1);
        due("24: done", x.has(5), 1);
        due("24: KEPT", x.kept(0, 0), 1);
        due("24: KEPT", x.kept(0, 1), 2 * corner + thing);
        due("24: one ACT", x.has(9), 1);
        due("24: a hundred", x.chance(100), 100);
        due("24: one ACT", x.has(9), 2);
        due("24: 0", x.chance(0), NONE);
        due("24: 101", x.chance(101), NONE);
        due("24: least", x.chance(LEAST), NONE);
        due("24: refused", x.status(2), 3);
        x.undo();
        due("24: undone", x.has(4), 1);
        toMinute(x, 9990);
        due("24: beyond 9999", x.chance(10), NONE);
        due("24: at 9999", x.chance(9), 9);
        due("24: refused", x.status(2), 4);
        someAreGiven();
        doneBehindTheGiving();
    }

    private static int draw(long[] seed, int m) {
        seed[0] = (1103515245L * seed[0] + 12345L) % 2147483648L;
        return (int) (seed[0] / 64 % m);
    }

    private static void someAreGiven() {
        PalmHours x = made("thing a weigh 3 lasts 9;thing b weigh 5 lasts 2;corner c;corner d;pass 40;");
        x.seed(2147483647);
        long[] seed = {2147483647L};
        int given = 0;
        for (int k = 0; k < 60; k++) {
            if (draw(seed, 100) < 40) {
                draw(seed, 2);
                draw(seed, 2);
                given++;
            }
        }
        due("24: some are given", x.chance(60), given);
        due("24: the seed", x.has(10), seed[0]);
        x = made("corner c;pass 100;");
        due("24: without THINGS", x.chance(5), 0);
        seed[0] = 1;
        for (int k = 0; k < 5; k++) {
            draw(seed, 100);
        }
        due("24: one DRAW each", x.has(10), seed[0]);
        x = made("thing a weigh 3 lasts 9;pass 100;");
        due("24: without CORNERS", x.chance(5), 0);
        due("24: one DRAW each", x.has(10), seed[0]);
    }

    private static void doneBehindTheGiving() {
        PalmHours x = made("thing a weigh 3 lasts 1;corner c;palm c has a;pass 100;doing d at c hour 0;");
        due("24: gone and given again", x.chance(3), 3);
        due("24: never told as empty", x.doing(0, 2), 0);
        due("24: but without a passer", x.minutes(1), 1);
    }

    private static void promise25() {
        PalmHours x = made(PLAIN + "doing tea at cod hour 21;doing nap at bay hour 5;");
        x.minutes(2);
        due("25: given", x.give(2, 2), 21);
        due("25: in the palm", x.corner(2, 0), 2);
        due("25: held", x.corner(2, 1), 0);
        due("25: done", x.doing(0, 2), 1);
        due("25: in place of another", x.give(0, 1), 5);
        due("25: held anew", x.corner(0, 1), 0);
        x.minutes(1);
        due("25: the same again", x.give(0, 1), 5);
        due("25: held anew", x.corner(0, 1), 0);
        due("25: ACTS", x.has(9), 5);
        due("25: no such CORNER", x.give(3, 0), NONE);
        due("25: no such CORNER", x.give(-1, 0), NONE);
        due("25: no such THING", x.give(0, 3), NONE);
        due("25: no such THING", x.give(0, -1), NONE);
        due("25: no such THING", x.give(0, MOST), NONE);
        due("25: refused", x.status(3), 5);
        due("25: no ACT", x.has(9), 5);
    }

    private static void promise26() {
        PalmHours x = made(PLAIN + "says weigh+empty*2+held;doing nap at bay hour 2;");
        x.minutes(2);
        due("26: taken", x.take(1), 2);
        due("26: empty", x.corner(1, 0), NONE);
        due("26: since now", x.corner(1, 1), 0);
        due("26: done", x.doing(0, 2), 1);
        due("26: ACTS", x.has(9), 2);
        due("26: empty already", x.take(1), NONE);
        due("26: empty at first", x.take(2), NONE);
        due("26: none such", x.take(3), NONE);
        due("26: none such", x.take(-1), NONE);
        due("26: refused", x.status(3), 4);
        due("26: no ACT", x.has(9), 2);
    }

    private static void promise27() {
        PalmHours x = made(PLAIN + "doing tea at cod hour 21;doing nap at ash hour 0;pass 100;");
        due("27: none can be", x.undo(), false);
        x.minutes(2);
        x.give(2, 2);
        x.take(0);
        due("27: KEPT", x.has(7), 2);
        due("27: take", x.undo(), true);
        due("27: the THING", x.corner(0, 0), 0);
        due("27: held", x.corner(0, 1), 2);
        due("27: not done", x.doing(1, 2), 0);
        due("27: KEPT", x.has(7), 1);
        due("27: give", x.undo(), true);
        due("27: empty", x.corner(2, 0), NONE);
        due("27: empty since", x.corner(2, 1), 2);
        due("27: KEPT", x.has(7), 0);
        x.chance(3);
        int seed = x.has(10);
        due("27: chance", x.undo(), true);
        due("27: but the seed", x.has(10), seed);
        due("27: MINUTE", x.has(4), 2);
        due("27: minutes", x.undo(), true);
        due("27: MINUTE", x.has(4), 0);
        due("27: held", x.corner(0, 1), 0);
        due("27: none can be", x.undo(), false);
        due("27: refused", x.status(4), 2);
        for (int k = 0; k < 25; k++) {
            x.minutes(1);
        }
        for (int k = 0; k < 20; k++) {
            due("27: one of twenty", x.undo(), true);
            due("27: MINUTE", x.has(4), 24 - k);
        }
        due("27: the 21st", x.undo(), false);
        due("27: MINUTE", x.has(4), 5);
        x.minutes(1);
        Check.town(x, PLAIN);
        due("27: not behind town()", x.undo(), false);
        due("27: refused", x.status(4), 4);
        undoLeavesSeenAndImage();
    }

    private static void undoLeavesSeenAndImage() {
        PalmHours x = made(PLAIN);
        x.minutes(1);
        x.image();
        seen(x, 0, 0, 12);
        due("27: undone", x.undo(), true);
        due("27: SEEN is by the latest see()", x.has(8), 1);
        due("27: the latest image()", x.octet(1), 1);
    }

    private static void promise28() {
        PalmHours x = new PalmHours();
        due("28: seed", x.seed(5), true);
        due("28: seed", x.has(10), 5);
        due("28: below 0", x.seed(-1), false);
        due("28: least", x.seed(LEAST), false);
        due("28: refused", x.status(5), 2);
        due("28: it stays", x.has(10), 5);
        due("28: 0", x.seed(0), true);
        due("28: 0", x.has(10), 0);
        x.chance(1);
        due("28: drawn", x.has(10), 12345);
        due("28: most", x.seed(MOST), true);
        due("28: most", x.has(10), MOST);
    }

    private static void promise29() {
        PalmHours x = made("thing a weigh 3 lasts 9;corner c;corner d;palm c has a;says weigh+held;doing e at d hour 2;"
            + "doing f at c hour 3;doing g at c hour 5;doing h at d hour 9;doing i at c hour 0;doing j at d hour 3;");
        due("29: at first", x.kept(0, 0), 0);
        due("29: at first", x.kept(0, 1), 1);
        due("29: not yet", x.kept(1, 0), NONE);
        x.minutes(9);
        int[] minutes = {0, 2, 2, 3, 9, 9};
        int[] doings = {1, 0, 2, 5, 3, 4};
        due("29: told", x.has(7), 6);
        for (int k = 0; k < 6; k++) {
            due("29: MINUTE " + k, x.kept(k, 0), minutes[k]);
            due("29: DOING " + k, x.kept(k, 1), doings[k]);
        }
        due("29: none such", x.kept(6, 0), NONE);
        due("29: none such", x.kept(-1, 0), NONE);
        due("29: others", x.kept(0, 2), NONE);
        due("29: others", x.kept(0, -1), NONE);
        x = made(PLAIN + "doing b at cod hour 5;doing c at cod hour 12;");
        x.give(2, 0);
        x.give(2, 1);
        due("29: from the oldest on", x.kept(0, 1), 1);
        due("29: from the oldest on", x.kept(1, 1), 0);
    }

    private static void promise30() {
        PalmHours x = new PalmHours();
        due("30: nothing but the MINUTE", x.image(), 3);
        due("30: check", x.octet(2), (5 * (5 * 227 % 251) % 251));
        x = made(PLAIN + "doing noon at ash hour 12;doing tea at cod hour 5;");
        for (int k = 0; k < 3; k++) {
            x.minutes(100);
        }
        x.give(0, 2);
        int[] bytes = {1, 44, 2, 0, 0, 255, 0, 201, 255, 1, 44, 1, 0};
        due("30: how many", x.image(), 14);
        for (int k = 0; k < 13; k++) {
            due("30: byte " + k, x.octet(k), bytes[k]);
        }
        due("30: the last", x.octet(13), check(bytes));
    }

    private static void promise31() {
        PalmHours x = made("corner c;");
        due("31: ahead of any", x.octet(0), NONE);
        x.image();
        x.minutes(7);
        due("31: of the latest image()", x.octet(1), 0);
        due("31: the last", x.octet(5), check(0, 0, 255, 0, 0));
        due("31: none such", x.octet(6), NONE);
        due("31: none such", x.octet(-1), NONE);
        due("31: none such", x.octet(MOST), NONE);
        x.image();
        due("31: of the latest image()", x.octet(1), 7);
        Check.town(x, "");
        due("31: it is still the latest", x.octet(1), 7);
        x.image();
        due("31: a shorter one", x.octet(3), NONE);
    }

    private static byte[] imageOf(PalmHours x) {
        byte[] bytes = new byte[x.image()];
        for (int k = 0; k < bytes.length; k++) {
            bytes[k] = (byte) x.octet(k);
        }
        return bytes;
    }

    private static void isOn(PalmHours x, boolean want, int... ahead) {
        int[] all = java.util.Arrays.copyOf(ahead, ahead.length + 1);
        all[ahead.length] = check(ahead);
        Check.put(x, Check.bytes(all));
        due("32: on " + java.util.Arrays.toString(all), x.on(), want);
        due("32: the tape goes", x.end(1), false);
    }

    private static void promise32() {
        PalmHours x = made("thing a weigh 12 lasts 3;thing b weigh 5 lasts 9;corner c;corner d;palm c has a;"
            + "doing e at c hour 12;doing f at d hour 5;");
        x.minutes(1);
        byte[] image = imageOf(x);
        x.give(1, 1);
        x.minutes(4);
        seen(x, 0, 0, 0);
        Check.put(x, image);
        due("32: on", x.on(), true);
        due("32: MINUTE", x.has(4), 1);
        due("32: THING", x.corner(0, 0), 0);
        due("32: held", x.corner(0, 1), 1);
        due("32: empty", x.corner(1, 0), NONE);
        due("32: done", x.doing(0, 2), 1);
        due("32: not done", x.doing(1, 2), 0);
        due("32: nothing is KEPT", x.has(7), 0);
        due("32: no ACT can be undone", x.has(9), 0);
        due("32: SEEN stays", x.has(8), 1);
        due("32: undo", x.undo(), false);
        isOn(x, true, 39, 15, 1, 3, 231, 255, 3, 231, 0, 1);
        due("32: 9999", x.has(4), 9999);
        due("32: 999", x.corner(1, 1), 999);
        isOn(x, true, 0, 0, 0, 0, 0, 1, 0, 0, 0, 0);
        due("32: no DOING is done by that", x.has(5), 0);
        due("32: no DOING is done by that", x.has(7), 0);
        due("32: but behind the next ACT", x.minutes(1), 2);
        isOn(x, false, 39, 16, 1, 0, 0, 1, 0, 0, 0, 0);
        isOn(x, false, 0, 0, 2, 0, 0, 1, 0, 0, 0, 0);
        isOn(x, false, 0, 0, 254, 0, 0, 1, 0, 0, 0, 0);
        isOn(x, false, 0, 0, 1, 3, 232, 1, 0, 0, 0, 0);
        isOn(x, false, 0, 0, 1, 0, 0, 1, 4, 0, 0, 0);
        isOn(x, false, 0, 0, 1, 0, 0, 1, 0, 0, 2, 0);
        isOn(x, false, 0, 0, 1, 0, 0, 1, 0, 0, 0, 255);
        isOn(x, false, 0, 0, 1, 0, 0, 1, 0, 0, 0);
        isOn(x, false, 0, 0, 1, 0, 0, 1, 0, 0, 0, 0, 0);
        due("32: refused", x.status(5), 9);
        due("32: all stays", x.has(4), 1);
        due("32: all stays", x.has(7), 2);
        due("32: all stays", x.has(9), 1);
        image[image.length - 1] ^= 1;
        Check.put(x, image);
        due("32: a wrong last byte", x.on(), false);
        due("32: an empty tape", x.on(), false);
        due("32: refused", x.status(5), 11);
    }

    private static void promise33() {
        PalmHours x = made(PLAIN);
        x.feed(0, 0, 0, 0, 0);
        x.end(-1);
        Check.town(x, "x");
        Check.town(x, "y");
        x.minutes(0);
        x.chance(0);
        x.minutes(101);
        x.give(9, 9);
        x.take(2);
        x.take(9);
        x.give(0, 9);
        for (int k = 0; k < 5; k++) {
            x.undo();
        }
        x.seed(-1);
        x.seed(-2);
        x.end(0);
        x.see();
        x.see();
        x.on();
        x.on();
        for (int k = 0; k < 6; k++) {
            due("33: status " + k, x.status(k), k + 1);
        }
        due("33: others", x.status(6), NONE);
        due("33: others", x.status(-1), NONE);
        due("33: others", x.status(LEAST), NONE);
        x.later(9, 9);
        x.held(9);
        x.plan(-1, 0, 0);
        x.kept(9, 9);
        x.octet(9);
        for (int k = 0; k < 6; k++) {
            due("33: a question is not refused " + k, x.status(k), k + 1);
        }
        Check.town(x, PLAIN);
        due("33: town() leaves them", x.status(5), 6);
    }
}
