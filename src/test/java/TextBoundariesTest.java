/** Boundaries of the text (the Terms, I) and of promises 1 to 5: the tape, the TOWN, its FAULT. */
public final class TextBoundariesTest extends Boundaries {
    private static final String[] OWN_WORDS = {"thing", "weigh", "lasts", "corner", "road", "to", "steps", "palm", "has", "doing",
        "at", "hour", "says", "gone", "pass", "held", "minute", "empty", "if", "or", "and", "not", "all", "min", "max"};

    private TextBoundariesTest() {
    }

    public static void main(String[] args) throws ReflectiveOperationException {
        runAll(TextBoundariesTest.class);
    }

    // ---- I. the text

    static void term1AnEmptyTextIsATown() {
        good(0, "");
        good(0, " ");
        good(0, "\n \n");
    }

    static void term1EightyStatements() {
        good(80, "pass 1;".repeat(80));
        good(80, "pass 1;".repeat(80) + " \n ");
        good(80, "pass 1;".repeat(79) + "says 1;");
    }

    static void term1TheEightyFirstStatement() {
        fault(6, "pass 1;".repeat(80) + "@pass 1;");
        fault(6, "pass 1;".repeat(80) + "@says 1;");
        fault(6, "pass 1;".repeat(80) + "\n @thing");
        fault(6, "pass 1;".repeat(80) + "@pass 999;");
    }

    static void term1TheEightiethStatementEndsTooSoon() {
        fault(1, "pass 1;".repeat(79) + "pass 1@");
    }

    static void term1Weigh() {
        due("0", good(1, "thing a weigh 0 lasts 1;").thing(0, 0), 0);
        due("99", good(1, "thing a weigh 99 lasts 1;").thing(0, 0), 99);
        fault(4, "thing a weigh @100 lasts 1;");
        fault(4, "thing a weigh @9999 lasts 1;");
        fault(1, "thing a weigh @-1 lasts 1;");
    }

    static void term1Lasts() {
        due("1", good(1, "thing a weigh 1 lasts 1;").thing(0, 1), 1);
        due("99", good(1, "thing a weigh 1 lasts 99;").thing(0, 1), 99);
        fault(4, "thing a weigh 1 lasts @0;");
        fault(4, "thing a weigh 1 lasts @000;");
        fault(4, "thing a weigh 1 lasts @100;");
    }

    static void term1SixThings() {
        String six = many("thing t", 'a', 'f', " weigh 1 lasts 1;");
        due("six", good(6, six).has(0), 6);
        fault(6, six + "@thing tg weigh 1 lasts 1;");
        fault(6, six + "@thing ta weigh 100;");
    }

    static void term1FiveCorners() {
        String five = many("corner c", 'a', 'e', ";");
        due("five", good(5, five).has(1), 5);
        fault(6, five + "@corner cf;");
        fault(6, five + "@corner ca;");
    }

    static void term1Steps() {
        String two = "corner a;corner b;";
        due("1", good(3, two + "road a to b steps 1;").way(0, 1), 1);
        due("30", good(3, two + "road a to b steps 30;").way(0, 1), 30);
        fault(4, two + "road a to b steps @0;");
        fault(4, two + "road a to b steps @31;");
    }

    static void term1ARoadToItself() {
        fault(3, "corner a;corner b;road b to @b steps 1;");
    }

    static void term1ARoadToldAlready() {
        fault(3, "corner a;corner b;road a to b steps 1;road a to @b steps 1;");
    }

    static void term1ARoadToldAlreadyInTheOtherOrder() {
        fault(3, "corner a;corner b;road a to b steps 1;road b to @a steps 1;");
    }

    static void term1TenRoads() {
        String corners = many("corner c", 'a', 'e', ";");
        due("ten", good(15, corners + allRoads()).has(2), 10);
        fault(6, corners + allRoads() + "@road ca to cb steps 1;");
        fault(6, corners + allRoads() + "@road x");
    }

    static void term1APalmToldAlready() {
        String one = "thing a weigh 1 lasts 1;thing b weigh 1 lasts 1;corner c;palm c has a;";
        fault(3, one + "palm @c has b;");
        fault(3, one + "palm @c has x;");
    }

    static void term1Hour() {
        due("0", good(2, "corner c;doing d at c hour 0;").doing(0, 1), 0);
        due("23", good(2, "corner c;doing d at c hour 23;").doing(0, 1), 23);
        fault(4, "corner c;doing d at c hour @24;");
    }

    static void term1SixDoings() {
        String six = "corner c;" + many("doing d", 'a', 'f', " at c hour 1;");
        due("six", good(7, six).has(3), 6);
        fault(6, six + "@doing dg at c hour 1;");
    }

    static void term1OneSays() {
        fault(6, "says 1;@says 1;");
        fault(6, "says 1;pass 1;@says#");
    }

    static void term1OneGone() {
        fault(6, "gone all;@gone all;");
        good(2, "gone all;says 1;");
    }

    static void term1Pass() {
        String one = "thing a weigh 1 lasts 9;corner c;";
        due("0", good(3, one + "pass 0;").chance(20), 0);
        due("100", good(3, one + "pass 100;").chance(20), 20);
        fault(4, "pass @101;");
    }

    static void term1TheLastPassCounts() {
        String one = "thing a weigh 1 lasts 9;corner c;";
        due("0 last", good(4, one + "pass 100;pass 0;").chance(20), 0);
        due("100 last", good(5, one + "pass 100;pass 0;pass 100;").chance(20), 20);
    }

    static void term1PassIs0Without() {
        due("without", good(2, "thing a weigh 1 lasts 9;corner c;").chance(100), 0);
        PalmHours x = made("thing a weigh 1 lasts 9;corner c;pass 100;");
        Check.town(x, "thing a weigh 1 lasts 9;corner c;");
        due("not that of the former TOWN", x.chance(100), 0);
    }

    static void term1NamesOfOneToSixLetters() {
        good(2, "corner z;corner abcdef;");
        fault(1, "corner abcdef@g;");
        fault(1, "corner @;");
    }

    static void term1TheSeventhLetterWhateverMayStandThere() {
        fault(1, "abcdef@g");
        fault(1, "corner@s");
        fault(1, "pass abcdef@g;");
        fault(1, "says abcdef@g;");
        fault(1, "corner a abcdef@ghijkl;");
        fault(1, "corner b;palm abcdef@g has");
    }

    static void term1NumbersOfOneToFourDigits() {
        due("leading zeros", good(1, "thing a weigh 0007 lasts 0099;").thing(0, 0), 7);
        due("9999", sum("9999-9980"), 19);
        fault(1, "pass 0000@0;");
        fault(1, "says 1000@0;");
    }

    static void term1TheFifthDigitWhateverMayStandThere() {
        fault(1, "1234@5");
        fault(1, "corner 1234@567;");
        fault(1, "pass 1 1234@5;");
        fault(1, "thing a weigh 9999@9");
    }

    static void term1BlanksAre10And32Alone() {
        good(1, "\ncorner\n\n  a \n;\n");
        for (int sign = 0; sign < 256; sign++) {
            boolean isBlank = sign == 10 || sign == 32;
            PalmHours x = new PalmHours();
            due("town behind which is " + sign, Check.town(x, "pass 1;" + (char) sign), isBlank ? 1 : NONE);
            due("fault(0) of " + sign, x.fault(0), isBlank ? 0 : 1);
            due("fault(1) of " + sign, x.fault(1), isBlank ? NONE : 7);
        }
    }

    /** Each byte behind a text that goes on with no sign, or with some alone. */
    private static void noSignGoesOn(String text, String signs) {
        for (int sign = 0; sign < 256; sign++) {
            boolean isWordOrBlank = sign >= 'a' && sign <= 'z' || sign >= '0' && sign <= '9' || sign == 10 || sign == 32;
            if (!isWordOrBlank && signs.indexOf(sign) < 0) {
                PalmHours x = new PalmHours();
                due("town " + text + sign, Check.town(x, text + (char) sign + ";"), NONE);
                due("fault(0) of " + text + sign, x.fault(0), 1);
                due("fault(1) of " + text + sign, x.fault(1), text.length());
            }
        }
    }

    static void term1BytesThatAreNoSign() {
        noSignGoesOn("", "");
        noSignGoesOn("corner ", "");
        noSignGoesOn("corner a", ";");
        noSignGoesOn("pass ", "");
        noSignGoesOn("pass 1", ";");
        noSignGoesOn("corner a;palm ", "");
        noSignGoesOn("corner a;palm a ", "");
        noSignGoesOn("says ", "(");
        noSignGoesOn("says 1", "+-*/%;");
        noSignGoesOn("says 1+", "(");
        noSignGoesOn("says min", "(");
        noSignGoesOn("says min(1", "+-*/%,");
        noSignGoesOn("gone ", "([");
        noSignGoesOn("gone all ", ";");
        noSignGoesOn("gone [all", "]");
        noSignGoesOn("gone 1", "+-*/%<>=");
        noSignGoesOn("gone 1=1", "+-*/%;");
    }

    static void term1WordsAndNumbersSideBySideNeedABlank() {
        fault(1, "pass@1;");
        fault(1, "thing a weigh 1@lasts 1;");
        fault(1, "thing a weigh@1 lasts 1;");
        fault(1, "gone 1<2@or all;");
        fault(1, "corner a@1;");
        fault(1, "pass 1@abcdefg;");
        fault(1, "corner a@12345;");
        good(1, "says(1)+min(2,3)*if(1<2,3,4);");
        good(1, "gone[all]or[all]and not[all];");
    }

    static void term1AnOwnWordIsNoName() {
        for (String word : OWN_WORDS) {
            fault(1, "thing @" + word + " weigh 1 lasts 1;");
            fault(1, "corner @" + word + ";");
            fault(1, "corner c;doing @" + word + " at c hour 1;");
            fault(1, "corner c;road @" + word);
            fault(1, "corner c;road c to @" + word);
            fault(1, "corner c;palm @" + word);
            fault(1, "corner c;palm c has @" + word);
            fault(1, "corner c;doing d at @" + word);
        }
    }

    static void term1NamesThatAreNearlyOwnWords() {
        for (String word : OWN_WORDS) {
            good(1, "corner " + word.substring(0, word.length() - 1) + ";");
            if (word.length() < 6) {
                good(1, "corner " + word + "x;");
            }
        }
    }

    static void term1UnlikeNamesOfAllSorts() {
        String[] sorts = {"thing a weigh 1 lasts 1;", "corner a;", "corner z;doing a at z hour 1;"};
        for (String sort : sorts) {
            fault(2, sort + "thing @a weigh 1 lasts 1;");
            fault(2, sort + "corner @a;");
            fault(2, sort + "doing @a at a hour 1;");
        }
        good(3, "corner a;corner aa;corner aaaaaa;");
    }

    static void term1NamesToldAheadOfWhereTheyAreAsked() {
        fault(3, "road @a to b steps 1;corner a;corner b;");
        fault(3, "corner a;road a to @b steps 1;corner b;");
        fault(3, "thing t weigh 1 lasts 1;palm @a has t;corner a;");
        fault(3, "corner a;palm a has @t;thing t weigh 1 lasts 1;");
        fault(3, "doing d at @a hour 1;corner a;");
    }

    static void term1ANameOfAnotherSort() {
        String all = "thing t weigh 1 lasts 1;corner a;doing d at a hour 1;";
        fault(3, all + "road @t to a steps 1;");
        fault(3, all + "road a to @d steps 1;");
        fault(3, all + "palm @d has t;");
        fault(3, all + "palm a has @a;");
        fault(3, all + "palm a has @d;");
        fault(3, all + "doing e at @t hour 1;");
        fault(3, all + "doing e at @e hour 1;");
    }

    static void term1TheTextEndsTooSoon() {
        String[] parts = {"corner", " ", "a", ";", "thing", " ", "t", " ", "weigh", " ", "1", " ", "lasts", " ", "1", ";",
            "palm", " ", "a", " ", "has", " ", "t", ";", "says", " ", "max", "(", "1", ",", "2", ")", ";"};
        String text = "";
        int statements = 0;
        for (String part : parts) {
            text += part;
            if (part.equals(";")) {
                statements++;
                good(statements, text);
            } else {
                fault(1, text + "@");
                fault(1, text + " \n@");
            }
        }
    }

    static void term1AStatementEndsTooSoon() {
        String all = "thing t weigh 1 lasts 1;corner a;corner b;";
        String[] statements = {"thing@;", "thing c@;", "thing c weigh@;", "thing c weigh 1@;", "thing c weigh 1 lasts@;",
            "corner@;", "road@;", "road a@;", "road a to@;", "road a to b@;", "road a to b steps@;",
            "palm@;", "palm a@;", "palm a has@;", "doing@;", "doing d@;", "doing d at@;", "doing d at a@;", "doing d at a hour@;",
            "pass@;", "says@;", "says 1+@;", "says 1*@;", "says (@;", "says (1@;", "says min@;", "says min(@;", "says min(1@;",
            "says min(1,@;", "says max(1,2@;", "says if(@;", "says if(all@;", "says if(all,@;", "says if(all,1@;",
            "says if(all,1,@;", "says if(all,1,2@;", "gone@;", "gone 1@;", "gone 1<@;", "gone not@;", "gone [@;", "gone [all@;",
            "gone all or@;", "gone all and@;"};
        for (String statement : statements) {
            fault(1, all + statement);
        }
    }

    static void term1AWordIsWhole() {
        fault(1, "@corne");
        fault(1, "@corne r a;");
        fault(1, "thing a @weig");
        fault(1, "thing a weigh 1 @last 1;");
        fault(1, "says @mi(1,2);");
    }

    static void term1TheFirstFaultAlongTheText() {
        fault(4, "pass @101;corner a;corner a;");
        fault(2, "corner a;corner @a;pass 101;");
        fault(4, "pass @101");
        fault(4, "pass @101#");
        fault(2, "corner a;corner @a#");
        fault(3, "palm @x#");
        fault(6, "says 1;@says abcdefg;");
        fault(5, "says (((((((@(x");
    }

    static void term1SevenOpenAtOnce() {
        due("(", sum("(((((((9)))))))"), 9);
        holds("[[[[[[all]]]]]]", true);
        due("min(", sum("min(min(min(min(min(min(min(1,2),2),2),2),2),2),2)"), 1);
        good(1, "gone not not not not not not not all;");
        good(1, "gone not[not[not((1))<2]];");
    }

    static void term1TheEighthOpenAtOnce() {
        fault(5, "says (((((((@(9))))))));");
        fault(5, "gone [[[[[[[@[all]]]]]]]];");
        fault(5, "gone not not not not not not not @not all;");
        fault(5, "says max(max(max(max(max(max(max(max@(1,2)");
        fault(5, "says if(if(if(if(if(if(if(if@(");
        fault(5, "gone not[not[not[not@[all");
        fault(5, "gone not[not[not((@(1");
    }

    static void term1WhatIsClosedIsNotOpen() {
        good(1, "says (((((((1)))))))+(((((((1)))))));");
        good(1, "gone [[[[[[[all]]]]]]] or [[[[[[[all]]]]]]];");
    }

    static void term1NotIsOpenUntilItsFactEnds() {
        good(1, "gone not not not not not not not all and not not not not not not not all;");
        good(1, "gone not 1<2 or (((((((1)))))))<2;");
        fault(5, "gone not 1<((((((@(1");
        fault(5, "gone not ((((((@(1");
        good(1, "gone not ((((((1))))))<((((((2))))));");
    }

    static void term1EmptyIsInSaysAlone() {
        good(1, "says empty;");
        good(1, "says if(empty=1,1,2);");
        fault(1, "gone @empty=1;");
        fault(1, "gone if(all,@empty,1)=1;");
    }

    static void term1LastsIsInGoneAlone() {
        good(1, "gone lasts=1;");
        good(1, "gone if(all,lasts,1)=1;");
        fault(1, "says @lasts;");
        fault(1, "says if(@lasts=1,1,2);");
    }

    static void term1SaysBehindGoneAndGoneBehindSays() {
        good(2, "gone lasts=1;says empty;");
        good(2, "says empty;gone lasts=1;");
        fault(1, "gone lasts=1;says @lasts;");
        fault(1, "says empty;gone @empty=1;");
    }

    static void term1ResultsAboveAMillion() {
        holds("1000*1000=1000*999+1000", true);
        holds("1000*1000>1000*999+999", true);
        holds("1000*1000+1=1000*1000", true);
        holds("1000*1000-1=1000*999+999", true);
        holds("9999*9999=1000*1000", true);
        holds("1000*1000*(1000*1000)=1000*1000", true);
        holds("1000*1000+1000*1000-1=1000*999+999", true);
        holds("(0-1000*1000)*(0-1000*1000)=1000*1000", true);
        holds("0-1000*1000-(0-1000*1000)=0", true);
    }

    static void term1ResultsBelowLessAMillion() {
        holds("0-1000*1000-1=0-1000*1000", true);
        holds("0-1000*1000<0-1000*999-999", true);
        holds("0-1000*1000+1=0-1000*999-999", true);
        holds("(0-9999)*9999=0-1000*1000", true);
        holds("1000*1000*(0-1000*1000)=0-1000*1000", true);
        holds("(0-1000*1000)/1=0-1000*1000", true);
    }

    static void term1OverAndRestBy0() {
        due("/ 0", sum("9+7/0"), 9);
        due("% 0", sum("9+7%0"), 9);
        due("0 / 0", sum("9+0/0"), 9);
        due("by a sum that is 0", sum("9+(0-7)/(3-3)"), 9);
        due("by a sum that is 0", sum("9+(0-7)%(3-3)"), 9);
    }

    static void term1OverAndRestBelow0() {
        due("-7 / 2", sum("9+(0-7)/2"), 5);
        due("-7 % 2", sum("9+(0-7)%2"), 10);
        due("7 / -2", sum("9+7/(0-2)"), 5);
        due("7 % -2", sum("9+7%(0-2)"), 8);
        due("-7 / -2", sum("9+(0-7)/(0-2)"), 12);
        due("-7 % -2", sum("9+(0-7)%(0-2)"), 8);
        due("-8 / 2", sum("9+(0-8)/2"), 5);
        due("-8 % 2", sum("9+(0-8)%2"), 9);
        due("-1 / a million", sum("9+(0-1)/(1000*1000)"), 8);
    }

    static void term1AllFromTheLeftOn() {
        due("less", sum("23-9-4"), 10);
        due("over", sum("64/8/4"), 2);
        due("times and over", sum("7/2*2"), 6);
        due("rest and times", sum("9%5*3"), 12);
        due("a product first", sum("1+2*3-4/2"), 5);
    }

    static void term1SignsAtTheirEdge() {
        holds("1<2", true);
        holds("2<2", false);
        holds("3<2", false);
        holds("1>2", false);
        holds("2>2", false);
        holds("3>2", true);
        holds("1=2", false);
        holds("2=2", true);
        holds("3=2", false);
    }

    static void term1FactsThatAreJoined() {
        String[] yes = {"all", "1<2", "not 2<1", "[all]"};
        String[] no = {"not all", "2<1", "not 1<2", "[2<1]"};
        for (int k = 0; k < 4; k++) {
            for (int j = 0; j < 4; j++) {
                holds(yes[k] + " and " + yes[j], true);
                holds(yes[k] + " and " + no[j], false);
                holds(no[k] + " and " + yes[j], false);
                holds(no[k] + " and " + no[j], false);
                holds(yes[k] + " or " + yes[j], true);
                holds(yes[k] + " or " + no[j], true);
                holds(no[k] + " or " + yes[j], true);
                holds(no[k] + " or " + no[j], false);
            }
        }
    }

    // ---- promises 1 to 3: a new object, the tape

    static void promise01NothingIsThere() {
        PalmHours x = new PalmHours();
        for (int what = 0; what <= 9; what++) {
            due("has " + what, x.has(what), 0);
        }
        due("fault(0)", x.fault(0), 0);
        due("fault(1)", x.fault(1), NONE);
        due("octet(0)", x.octet(0), NONE);
        due("kept(0, 0)", x.kept(0, 0), NONE);
        due("refusals", refusals(x).equals("0 0 0 0 0 0 "), true);
    }

    static void promise01TheSeedIs1() {
        due("has(10)", new PalmHours().has(10), 1);
    }

    static void promise01NoCornersToAskAbout() {
        PalmHours x = new PalmHours();
        due("corner", x.corner(0, 1), NONE);
        due("later", x.later(0, 0), NONE);
        due("when", x.when(0), NONE);
        due("way", x.way(0, 0), NONE);
        due("held", x.held(0), NONE);
        due("tells", x.tells(0, 0), NONE);
        due("plan for nothing", x.plan(0, 0, NONE), 0);
        due("plan for nothing, a CORNER", x.plan(0, 0, 0), NONE);
        due("image", x.image(), 3);
    }

    static void promise02AFullTape() {
        PalmHours x = fed(80);
        due("one more", x.feed(0, 0, 0, 0, 0), NONE);
        due("refused", x.status(0), 1);
        due("the tape stays", x.end(1600), true);
        due("all of it is read", x.town(), 0);
    }

    static void promise02OneByteTooMany() {
        PalmHours x = fed(80);
        x.end(1581);
        due("1601", x.feed(0, 0, 0, 0, 0), NONE);
        due("refused", x.status(0), 1);
        due("nothing of it came", x.end(1582), false);
    }

    static void promise02JustFull() {
        PalmHours x = fed(80);
        x.end(1580);
        due("1600", x.feed(0, 0, 0, 0, 0), 1600);
        due("not refused", x.status(0), 0);
    }

    static void promise02TheHighestByteFirst() {
        PalmHours x = new PalmHours();
        due("20", x.feed(0x636f726e, 0x65722061, 0x62636465, 0x663b636f, 0x726e6572), 20);
        due("40", x.feed(0x20207a3b, 0x0a0a0a0a, 0, LEAST, -1), 40);
        x.end(28);
        due("town", x.town(), 2);
        due("the first", x.letter(1, 0, 0), 1);
        due("the last", x.letter(1, 0, 5), 6);
        due("across two calls", x.letter(1, 1, 0), 26);
    }

    static void promise02BytesAbove127() {
        PalmHours x = made("thing a weigh 7 lasts 9;corner c;");
        due("on()", on(x, image(0, 200, 255, 0, 255)), true);
        due("MINUTE", x.has(4), 200);
        due("empty", x.corner(0, 1), 255);
    }

    static void promise03AnEmptyTape() {
        PalmHours x = new PalmHours();
        due("0", x.end(0), true);
        due("1", x.end(1), false);
        due("refused", x.status(0), 1);
    }

    static void promise03NotSoMany() {
        PalmHours x = fed(1);
        due("20", x.end(20), true);
        due("21", x.end(21), false);
        due("refused", x.status(0), 1);
        due("the tape stays", x.end(20), true);
    }

    static void promise03Below0() {
        PalmHours x = fed(1);
        due("-1", x.end(-1), false);
        due("the least", x.end(LEAST), false);
        due("refused", x.status(0), 2);
        due("the tape stays", x.end(20), true);
    }

    static void promise03WhatIsCutIsGone() {
        PalmHours x = fed(1);
        due("7", x.end(7), true);
        due("8", x.end(8), false);
        due("behind the seven", x.feed(0, 0, 0, 0, 0), 27);
    }

    // ---- promises 4 and 5: the TOWN, its FAULT

    static void promise04WithAFaultAllStays() {
        PalmHours x = busy();
        String ahead = all(x);
        due("town", Check.town(x, "corner a;corner a;"), NONE);
        due("all stays", all(x).equals(ahead), true);
        due("it can be undone", x.undo(), true);
    }

    static void promise04WithAFaultItIsRefused() {
        PalmHours x = busy();
        Check.town(x, "#");
        Check.town(x, "#");
        due("refused", refusals(x).equals("0 2 0 0 0 0 "), true);
    }

    static void promise04TheTapeGoes() {
        PalmHours x = new PalmHours();
        Check.town(x, "corner a;");
        due("it is gone", x.end(1), false);
        Check.town(x, "#");
        due("with a FAULT, too", x.end(1), false);
        due("an empty TOWN", x.town(), 0);
        due("no CORNERS", x.has(1), 0);
    }

    static void promise04AllIsAsAtFirst() {
        PalmHours x = busy();
        int seed = x.has(10);
        due("told again", Check.town(x, SMALL + "pass 50;"), 11);
        PalmHours other = made(SMALL + "pass 50;");
        other.seed(seed);
        for (int what = 0; what <= 10; what++) {
            due("has " + what, x.has(what), other.has(what));
        }
        for (int corner = 0; corner < 3; corner++) {
            due("THING", x.corner(corner, 0), other.corner(corner, 0));
            due("held", x.corner(corner, 1), 0);
            due("HELD", x.held(corner), 7);
        }
    }

    static void promise04NothingIsKeptButWhatIsDoneAtOnce() {
        PalmHours x = busy();
        Check.town(x, SMALL);
        due("one is KEPT", x.has(7), 1);
        due("at MINUTE 0", x.kept(0, 0), 0);
        due("the one that is done", x.kept(0, 1), 0);
        Check.town(x, "corner c;");
        due("nothing is KEPT", x.has(7), 0);
    }

    static void promise04NothingIsSeen() {
        PalmHours x = busy();
        Check.town(x, SMALL);
        due("rows", x.has(8), 0);
        due("all are HELD", x.held(0), 7);
    }

    static void promise04NoActCanBeUndone() {
        PalmHours x = busy();
        Check.town(x, SMALL);
        due("has(9)", x.has(9), 0);
        due("undo()", x.undo(), false);
    }

    static void promise04TheSeedStays() {
        PalmHours x = busy();
        x.seed(99);
        Check.town(x, SMALL);
        due("has(10)", x.has(10), 99);
    }

    static void promise04NothingOfTheFormerTownStays() {
        PalmHours x = made(SMALL + "says 20;gone all;pass 100;");
        due("an empty TOWN", Check.town(x, ""), 0);
        due("THINGS", x.has(0), 0);
        due("CORNERS", x.has(1), 0);
        due("ROADS", x.has(2), 0);
        due("DOINGS", x.has(3), 0);
        Check.town(x, "thing a weigh 7 lasts 9;corner ash;corner bay;");
        due("no says", x.corner(0, 2), 0);
        due("no gone", x.give(0, 0) + x.later(0, 8), 14);
        due("no palm", x.corner(1, 0), NONE);
        due("no ROAD", x.way(0, 1), NONE);
    }

    /** What a new object answers to all questions by a text, an object answers that was told others ahead of it. */
    private static void isAsNew(PalmHours x, String text) {
        PalmHours fresh = new PalmHours();
        due("town " + text, Check.town(x, text), Check.town(fresh, text));
        due("fault(0) of " + text, fresh.fault(0), 0);
        for (int round = 0; round < 3; round++) {
            due("image", x.image(), fresh.image());
            due("all is as of a new one", all(x).equals(all(fresh)), true);
            due("what is asked is as of a new one", asked(x).equals(asked(fresh)), true);
            due("minutes", x.minutes(3), fresh.minutes(3));
        }
    }

    private static String asked(PalmHours x) {
        StringBuilder s = new StringBuilder();
        for (int a = 0; a < 6; a++) {
            s.append(x.when(a)).append(' ').append(x.early(a)).append(' ').append(x.plan(1 << a, 9, NONE)).append(' ');
            for (int b = 0; b < 6; b++) {
                s.append(x.way(a, b)).append(' ').append(x.arrive(a, b)).append(' ').append(x.alike(a, b)).append(' ');
                s.append(x.evening(a, b)).append(' ').append(x.tells(a, b)).append(' ').append(x.odds(a, b, 2)).append(' ');
                s.append(x.plan(63 >> a, 9, b)).append(' ');
            }
        }
        return s.toString();
    }

    static void promise04ToldThrice() {
        PalmHours x = new PalmHours();
        for (int k = 0; k < 4; k++) {
            isAsNew(x, SMALL);
            isAsNew(x, FULL);
            isAsNew(x, FULL);
        }
    }

    static void promise04ASmallerTownBehindTwoLargerOnes() {
        String[] smaller = {"", "corner a;", "thing t weigh 7 lasts 9;corner a;", SMALL,
            "corner a;corner b;corner c;corner d;says 20-minute;road a to d steps 2;doing e at b hour 18;"};
        for (String text : smaller) {
            PalmHours x = made(FULL);
            Check.town(x, FULL);
            isAsNew(x, text);
            x = made(FULL);
            Check.town(x, FULL);
            Check.town(x, FULL + "#");
            isAsNew(x, text);
        }
    }

    static void promise04NothingOfAFaultyTextStays() {
        PalmHours x = new PalmHours();
        Check.town(x, "thing a weigh 7 lasts 9;corner c;palm c has a;says 9;gone all;pass 100;#");
        due("no CORNER", x.has(1), 0);
        due("a new one", Check.town(x, "thing a weigh 7 lasts 9;corner c;"), 2);
        due("no says", x.corner(0, 2), 0);
        due("no palm", x.corner(0, 0), NONE);
        due("no pass", x.chance(50), 0);
    }

    static void promise04ATextOf1600Bytes() {
        String text = "corner abcdef;" + " ".repeat(1600 - 28) + "corner bcdefg;";
        PalmHours x = good(2, text);
        due("the last letter", x.letter(1, 1, 5), 7);
        x = new PalmHours();
        due("a SUM of 1600 bytes", Check.town(x, "corner c;says 1" + "+1".repeat(792) + ";"), 2);
        due("793 ones", x.corner(0, 2), 23);
        x = new PalmHours();
        due("it ends too soon", Check.town(x, "corner c;says 1" + "+1".repeat(792) + "+"), NONE);
        due("at the text's length", x.fault(1), 1600);
    }

    static void promise05AheadOfAny() {
        PalmHours x = new PalmHours();
        due("fault(0)", x.fault(0), 0);
        due("fault(1)", x.fault(1), NONE);
    }

    static void promise05Without() {
        PalmHours x = new PalmHours();
        Check.town(x, "#");
        Check.town(x, "");
        due("fault(0)", x.fault(0), 0);
        due("fault(1)", x.fault(1), NONE);
    }

    static void promise05OfTheLatest() {
        PalmHours x = new PalmHours();
        Check.town(x, "pass 101;");
        due("fault(0)", x.fault(0), 4);
        due("fault(1)", x.fault(1), 5);
        Check.town(x, "#");
        due("fault(0)", x.fault(0), 1);
        due("fault(1)", x.fault(1), 0);
        x.see();
        x.on();
        due("see(), on() leave it", x.fault(0), 1);
    }

    static void promise05AnotherWhat() {
        PalmHours x = made(SMALL);
        int[] others = {LEAST, -1, 2, 3, MOST};
        for (int what : others) {
            due("fault " + what, x.fault(what), NONE);
        }
    }
}
