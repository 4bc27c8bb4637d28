/** The boundary cases that part II of the document names, each sentence in a test of its own. */
public final class TextBoundaryTest {
    private static final int NONE = Check.NONE;

    public static void main(String[] args) {
        Check.main(TextBoundaryTest.class);
    }

    private static void due(String call, long got, long want) {
        Check.due(call, got, want);
    }

    private static void due(String call, boolean got, boolean want) {
        Check.due(call, got, want);
    }

    private static void fault(String text, int kind, int place) {
        Check.fault(text, kind, place);
    }

    private static void fine(String text) {
        Check.fine(text);
    }

    private static void sum(String sum, int want) {
        due(sum, Check.sum(sum), want);
    }

    // ---- TEXTS and TOKENS

    /** "TEXTS 0 .. 3". */
    static void partIITexts0To3() {
        ProphetLiable x = new ProphetLiable();
        for (int i = 0; i <= 3; i++) {
            due("text()", Check.read(x, "day 1;"), i);
            due("about(2)", x.about(2), i + 1);
        }
        due("the fifth", Check.read(x, "day 1;"), NONE);
        due("about(2)", x.about(2), 4);
        due("played(3)", x.played(3), NONE);
        due("played(4)", x.played(4), -2);
    }

    /** "of up to 300 bytes": the last byte counts, and there are no more. */
    static void partIITextsOfUpTo300Bytes() {
        String most = "comes " + "9+".repeat(146) + "5;";
        due("its length", most.length(), 300);
        fine(most);
        fault(most.substring(0, 299) + " ", 1, 300);
        fault(most.substring(0, 299) + ":", 1, 299);
        ProphetLiable x = new ProphetLiable();
        Check.put(x, most);
        due("about(8)", x.about(8), 300);
        due("feed", x.feed(0, 0, 0, 0, 0), NONE);
        due("about(8)", x.about(8), 300);
        due("text()", x.text(), 0);
    }

    /** A TEXT of 300 bytes of TOKENS that are one byte each is read to its end. */
    static void partIITextsOf300Tokens() {
        fault("comes " + "-1".repeat(147), 1, 300);
        fault(";".repeat(300), 1, 0);
        String sum = "dues 1" + "-0".repeat(146) + ";";
        due("its length", sum.length(), 299);
        fine(sum);
    }

    /** "blanks (32, 10) aside": they may stand anywhere between TOKENS. */
    static void partIIBlanksAre32And10() {
        fine(" \n day\n\n1 \n;\n ");
        fine("\n");
        fine(" ");
        fault("  \n  x", 1, 5);
    }

    /** "blanks (32, 10)": no other byte is one. */
    static void partIIBlanksAreNoOthers() {
        for (int sign = 0; sign < 256; sign++) {
            boolean blank = sign == 32 || sign == 10;
            fault("day 1;" + (char) sign, blank ? 0 : 1, blank ? NONE : 6);
        }
    }

    /** "blanks .. aside": within a TOKEN one makes two of it. */
    static void partIIBlanksPartTokens() {
        fault("da y 1;", 1, 0);
        fault("day 1 2;", 1, 6);
        fault("comes if 1 < = 2 then 1 else 2 end;", 1, 13);
        fault("comes if 1 <\n= 2 then 1 else 2 end;", 1, 13);
    }

    /** "letters a .. z, A .. Z one behind the other (one TOKEN)". */
    static void partIILettersAreOneToken() {
        for (int sign = 0; sign < 256; sign++) {
            boolean letter = sign >= 'a' && sign <= 'z' || sign >= 'A' && sign <= 'Z';
            boolean digit = sign >= '0' && sign <= '9';
            boolean blank = sign == 32 || sign == 10;
            // A letter makes another word of prophet; a digit or a blank ends it; all else can't stand there.
            if (digit || blank) {
                fine("prophet" + (char) sign + "1 fame 1;");
            } else {
                fault("prophet" + (char) sign + "1 fame 1;", 1, letter ? 0 : 7);
            }
        }
    }

    /** Words are told apart by small and great letters, and by their length. */
    static void partIIWordsAreWhole() {
        fault("Day 1;", 1, 0);
        fault("DAY 1;", 1, 0);
        fault("da 1;", 1, 0);
        fault("days 1;", 1, 0);
        fault("comes fac;", 1, 6);
        fault("comes factor;", 1, 6);
        fault("dues factss;", 1, 5);
        fault("dues du;", 1, 5);
        fault("dues duesdue;", 1, 5);
        fine("dues due;");
        fine("dues facts;");
    }

    /** "digits likewise". */
    static void partIIDigitsAreOneToken() {
        for (int sign = 0; sign < 256; sign++) {
            boolean digit = sign >= '0' && sign <= '9';
            boolean blank = sign == 32 || sign == 10;
            if (digit) {
                fine("day 1" + (char) sign + ";");
                fault("day 6" + (char) sign + ";", sign == '0' ? 0 : 2, sign == '0' ? NONE : 4);
            } else {
                // Behind a blank or a ; it is the second 1 that can't stand there.
                fault("day 1" + (char) sign + "1;", 1, blank || sign == ';' ? 6 : 5);
            }
        }
    }

    /** Letters and digits part one another without a blank. */
    static void partIILettersAndDigitsPart() {
        fine("fact10cost99;prophet0fame0;foretell0any0,1in1fee0;day60;");
        fault("fact10cost99x;", 1, 12);
        fault("day1x;", 1, 4);
    }

    /** "(NUMBERS, 0 .. 9999)": by what they are, not by how many digits. */
    static void partIINumbers0To9999() {
        fine("comes 0;");
        fine("comes 9999;");
        fault("comes 10000;", 2, 6);
        fault("comes 2147483648;", 2, 6);
        fault("comes 4294967296;", 2, 6);
        fault("comes 18446744073709551616;", 2, 6);
        fault("comes " + "9".repeat(200) + ";", 2, 6);
        fine("comes 0000009999;");
        fault("comes 00000010000;", 2, 6);
        sum("0000000000000000000000000000000000012", 12);
        sum("00", 0);
    }

    /** "<= >= < > = # + - * / ( ) , ; (the longest)". */
    static void partIISignsTheLongest() {
        due("2<=2", Check.holds("2<=2"), true);
        due("2>=2", Check.holds("2>=2"), true);
        fault("comes if 2==2 then 1 else 2 end;", 1, 11);
        fault("comes if 2=<2 then 1 else 2 end;", 1, 11);
        fault("comes if 2=>2 then 1 else 2 end;", 1, 11);
        fault("comes if 2<>2 then 1 else 2 end;", 1, 11);
        fault("comes if 2<==2 then 1 else 2 end;", 1, 12);
        fault("comes if 2>>=2 then 1 else 2 end;", 1, 11);
        fault("<=", 1, 0);
        fault("comes 1<=2;", 1, 7);
    }

    /** "The tape has its first n bytes alone": a sign isn't longer by a byte that was cut off. */
    static void partIISignsNotBeyondTheEnd() {
        ProphetLiable x = new ProphetLiable();
        Check.put(x, "comes if 2<=2 then");
        x.end(11);
        due("text()", x.text(), NONE);
        due("fault(0)", x.fault(0), 1);
        due("fault(1): the end, behind <", x.fault(1), 11);
        Check.put(x, "day 15;");
        x.end(5);
        due("text()", x.text(), NONE);
        due("fault(1): the end, behind 1", x.fault(1), 5);
        Check.put(x, "days");
        x.end(3);
        due("text()", x.text(), NONE);
        due("fault(1): the end, behind day", x.fault(1), 3);
    }

    // ---- CLAUSES

    /** "{CLAUSE}": none at all, too. */
    static void partIINoClause() {
        ProphetLiable x = new ProphetLiable();
        due("text() of an empty tape", x.text(), 0);
        due("fault(0)", x.fault(0), 0);
        due("fault(1)", x.fault(1), NONE);
        due("played(0)", x.played(0), NONE);
        due("by(0)", x.by(0), true);
    }

    /** "24 at most": laws count, too. */
    static void partIIClauses24AtMost() {
        fine("day 1;".repeat(24));
        fine("comes 1;dues 1;renown 1;" + "day 1;".repeat(21));
        fault("day 1;".repeat(25), 6, 144);
        fault("comes 1;dues 1;renown 1;" + "day 1;".repeat(22), 6, 150);
    }

    /** "comes SUM ; or dues SUM ; or renown SUM ; (each once)". */
    static void partIILawsEachOnce() {
        fine("comes 1;dues 2;renown 3;");
        fine("renown 1;day 1;comes 1;day 1;dues 1;");
        fault("comes 1;comes 1;", 4, 8);
        fault("dues 1;dues 1;", 4, 7);
        fault("renown 1;renown 1;", 4, 9);
        fine("day 1;day 1;fact 1 cost 1;fact 1 cost 1;prophet 1 fame 1;prophet 1 fame 1;");
    }

    /** "foretell NUMBER any NUMBER {, NUMBER}": one FACT at least, eight at most. */
    static void partIIForetellOfOneToEightFacts() {
        fault("foretell 0 any in 1 fee 1;", 1, 15);
        fault("foretell 0 all in 1 fee 1;", 1, 15);
        fault("foretell 0 any , 1 in 1 fee 1;", 1, 15);
        fine("foretell 0 any 7 in 1 fee 1;");
        fine("foretell 0 any 0,1,2,3,4,5,6,7 in 1 fee 1;");
        fine("foretell 0 all 0,1,2,3,4,5,6,7 in 1 fee 1;");
        fault("foretell 0 any 1, in 1 fee 1;", 1, 18);
        fault("foretell 0 any 1 2 in 1 fee 1;", 1, 17);
    }

    /** "(PROPHET, unlike FACTS or not, DAYS)": a FACT that stands there twice counts once. */
    static void partIIForetellUnlikeFactsOrNot() {
        ProphetLiable x = Check.quiet(8);
        x.prophet(0, 0);
        Check.read(x, "foretell 0 all 3,3,3,3,3,3,3,3 in 4 fee 1; foretell 0 any 1,7,1 in 4 fee 1;");
        due("played(0)", x.played(0), NONE);
        due("word(0, 2)", x.word(0, 2), 8);
        due("word(0, 1)", x.word(0, 1), 1);
        due("word(1, 2)", x.word(1, 2), 130);
        due("word(1, 1)", x.word(1, 1), 0);
    }

    /** "bring NUMBER by NUMBER ; (FACT, PROPHET)", and the order of the others' NUMBERS. */
    static void partIIActsInTheOrderOfTheirNumbers() {
        ProphetLiable x = new ProphetLiable();
        Check.read(x, "fact 3 cost 9;fact 10 cost 0;prophet 7 fame 8;prophet 60 fame 2;"
            + "bring 0 by 1;foretell 0 any 1 in 7 fee 3;foretell 1 all 0,1 in 5 fee 6;sell 1 to 0 price 4;"
            + "spoil 0 by 1;");
        due("played(0)", x.played(0), NONE);
        Check.due("the world", Check.world(x), "is 0 191 0 2 fact 3 9 0 3 fact 10 0 0 10 "
            + "prophet 14 8 0 2 90 prophet 44 2 0 0 0 word 0 0 2 7 3 0 30 0 word 0 1 3 5 6 0 60 0 book 0 1 2 4 ");
    }

    // ---- SUMS

    /** "if EITHER then SUM else SUM end" is a ONE, wherever it stands. */
    static void partIIIfIsOne() {
        sum("5 + if 1 = 1 then 2 else 3 end", 7);
        sum("5 + if 1 = 2 then 2 else 3 end", 8);
        sum("5 * if 1 = 1 then 2 + 2 else 3 end + 1", 21);
        sum("1 + 2 * (3 + if 1 # 1 then 2 else 3 - 1 end * 4)", 23);
        sum("7 - if if 1 = 1 then 2 else 3 end = 2 then if 1 = 2 then 4 else 5 end else 6 end", 2);
        sum("percent if 1 = 1 then 3 else 0 end of if 1 = 2 then 0 else 4 end", 75);
    }

    /** "percent ONE of ONE (100 times the first by the second .. ; by 0 it is 0)". */
    static void partIIPercentBy0() {
        sum("percent 5 of 0 + 4", 4);
        sum("percent - 5 of 0 + 4", 4);
        sum("percent 0 of 0 + 4", 4);
        sum("percent 0 of 5 + 4", 4);
    }

    /** "percent .. cut towards 0". */
    static void partIIPercentIsCutTowards0() {
        sum("percent 2 of 3", 66);
        sum("100 + percent - 2 of 3", 34);
        sum("100 + percent 2 of - 3", 34);
        sum("percent - 2 of - 3", 66);
        sum("percent 1 of 101", 0);
        sum("9 + percent - 1 of 101", 9);
    }

    /** "so ONE (1, if the FACT of that number is SO, else 0)": also where there is no such FACT. */
    static void partIISoOfNumbersOfNoFact() {
        sum("so 1", 1);
        sum("so 0 + 5", 5);
        sum("so 3 + 5", 5);
        sum("so 7 + 5", 5);
        sum("so 8 + 5", 5);
        sum("so 9 + 5", 5);
        sum("so 32 + so 33 + so 65 + 5", 5);
        sum("so - 1 + so - 31 + so - 63 + 5", 5);
        sum("so (9999 * 9999) + so - (9999 * 9999) + 5", 5);
        ProphetLiable x = Check.quiet(8);
        x.prophet(0, 0);
        x.foretell(0, true, 1, 9, 0);
        x.bring(0, 7);
        Check.rule(x, "dues 2 * so 7 + so 8 + so 6 + 5 * so 0 + so - 1;");
        due("so 7 of eight", x.word(0, 6), 2);
        x.spoil(0, 7);
        x.bring(0, 0);
        due("so 0 of eight", x.word(0, 6), 5);
    }

    /** "NAMES: day, many (how many FACTS are SO) in all". */
    static void partIINamesInAll() {
        fine("comes day + many;dues day + many;renown day + many;");
        sum("day", 2);
        sum("many", 1);
        ProphetLiable x = Check.quiet(8);
        x.prophet(0, 0);
        x.foretell(0, true, 1, 9, 0);
        Check.rule(x, "dues 50 + many;");
        due("none is SO", x.word(0, 6), 50);
        for (int i = 0; i < 8; i++) {
            x.bring(0, i);
        }
        due("all are SO", x.word(0, 6), 58);
    }

    /** "fact (its number), odds, cost in comes". */
    static void partIINamesInComes() {
        ProphetLiable x = new ProphetLiable();
        for (int i = 0; i < 8; i++) {
            x.fact(10 - i, i);
        }
        Check.read(x, "comes fact;");
        Check.read(x, "comes odds;");
        Check.read(x, "comes cost;");
        for (int i = 0; i < 8; i++) {
            x.by(0);
            due("fact of FACT " + i, x.ofFact(i, 3), i);
            x.by(1);
            due("odds of FACT " + i, x.ofFact(i, 3), 10 - i);
            x.by(2);
            due("cost of FACT " + i, x.ofFact(i, 3), i);
        }
    }

    /** "who (whose), fame, purse, fee, facts (how many are in it), due (DAYS till it is due ..) in dues, renown". */
    static void partIINamesInDuesAndRenown() {
        sum("who", 1);
        sum("fame", 7);
        sum("purse", 60);
        sum("fee", 20);
        sum("facts", 2);
        sum("due", 6);
        String[] names = {"who", "fame", "purse", "fee", "facts", "due", "day", "many"};
        int[] want = {1, 7, 40, 20, 2, 4, 1, 2};
        for (int i = 0; i < names.length; i++) {
            ProphetLiable x = Check.quiet(3);
            x.prophet(0, 0);
            x.prophet(20, 7);
            x.foretell(1, true, 5, 5, 20);
            x.day(1);
            x.bring(0, 0);
            x.bring(0, 2);
            Check.rule(x, "renown " + names[i] + ";");
            x.day(1);
            due("renown " + names[i], x.book(0, 3), want[i]);
        }
    }

    /** "due (DAYS till it is due; below 0 then)". */
    static void partIIDueBelow0Then() {
        ProphetLiable x = Check.quiet(1);
        x.prophet(0, 0);
        x.foretell(0, true, 1, 2, 0);
        Check.rule(x, "dues 10 + due;");
        int[] want = {12, 11, 10, 9, 8};
        for (int day = 0; day < 5; day++) {
            due("dues on DAY " + day, x.word(0, 6), want[day]);
            x.day(1);
        }
        x.day(60);
        due("dues: 0 at least", x.word(0, 6), 0);
    }

    /** "From the left". */
    static void partIIFromTheLeft() {
        sum("100 - 10 - 1", 89);
        sum("100 - 10 + 1", 91);
        sum("100 / 7 * 7", 98);
        sum("100 / 10 / 5", 2);
        sum("7 * 100 / 50 / 2", 7);
        sum("2 + 3 * 4 - 10 / 3", 11);
    }

    /** "/ cuts towards 0". */
    static void partIIOverCutsTowards0() {
        sum("7 / 2", 3);
        sum("10 + - 7 / 2", 7);
        sum("10 + 7 / - 2", 7);
        sum("- 7 / - 2", 3);
        sum("10 + - 1 / 2", 10);
    }

    /** "by 0 it is 0". */
    static void partIIOverBy0() {
        sum("7 / 0 + 3", 3);
        sum("0 / 0 + 3", 3);
        sum("- 7 / 0 + 3", 3);
        sum("7 / (2 - 2) + 3", 3);
    }

    /** "what is above 1000000 .. is that, at each step": at +. */
    static void partIIAbove1000000AtPlus() {
        sum("1000 * 1000 + 5 - 1000 * 999", 1000);
        sum("999 * 1000 + 1001 - 1000 * 999", 1000);
        sum("999 * 1000 + 1000 - 1000 * 999", 1000);
        sum("999 * 1000 + 999 - 1000 * 999", 999);
    }

    /** "what is above 1000000 .. is that, at each step": at -. */
    static void partIIAbove1000000AtMinus() {
        sum("1000 * 1000 - - 5 - 1000 * 999", 1000);
        sum("999 * 1000 - - 1000 - 1000 * 999", 1000);
        sum("999 * 1000 - - 999 - 1000 * 999", 999);
    }

    /** "what is above 1000000 .. is that, at each step": at *. */
    static void partIIAbove1000000AtTimes() {
        sum("1001 * 1000 - 1000 * 999", 1000);
        sum("9999 * 9999 - 1000 * 999", 1000);
        sum("9999 * 9999 * 9999 * 9999 * 9999 - 1000 * 999", 1000);
        sum("- 1001 * - 1000 - 1000 * 999", 1000);
        sum("9999 * 9999 / 1000", 1000);
    }

    /** "what is above 1000000 .. is that, at each step": at percent. */
    static void partIIAbove1000000AtPercent() {
        sum("percent 9999 of 1 - 999 * 1000", 900);
        sum("percent (1001 * 10) of 1 - 999 * 1000", 1000);
        sum("percent (9999 * 9999) of 1 - 999 * 1000", 1000);
        sum("percent (9999 * 9999) of 9999 - 100 * 100", 1);
    }

    /** "below the same less": below -1000000 it is that, at +, -, *, percent and - of one. */
    static void partIIBelowMinus1000000AtEachStep() {
        sum("0 - 1000 * 1000 - 5 + 1000 * 1000 + 10", 10);
        sum("0 - 999 * 1000 - 1000 + 1000 * 1000 + 10", 10);
        sum("0 - 999 * 1000 - 999 + 1000 * 1000 + 10", 11);
        sum("0 - 1000 * 1000 + - 5 + 1000 * 1000 + 10", 10);
        sum("- 1001 * 1000 + 1000 * 1000 + 10", 10);
        sum("9999 * - 9999 + 1000 * 1000 + 10", 10);
        sum("percent - (1001 * 10) of 1 + 1000 * 1000 + 10", 10);
        sum("percent (1001 * 10) of - 1 + 1000 * 1000 + 10", 10);
        sum("- (9999 * 9999) + 1000 * 1000 + 10", 10);
        sum("- - (9999 * 9999) - 999 * 1000", 1000);
    }

    /** "ASK: .. SUM one of < <= > >= = # (unlike) SUM": just below, like, just above. */
    static void partIIAsksAtTheirEdges() {
        String[] signs = {"<", "<=", ">", ">=", "=", "#"};
        boolean[][] want = {{true, false, false}, {true, true, false}, {false, false, true}, {false, true, true},
            {false, true, false}, {true, false, true}};
        for (int i = 0; i < signs.length; i++) {
            for (int side = -1; side <= 1; side++) {
                String ask = (5 + side) + " " + signs[i] + " 5";
                due(ask, Check.holds(ask), want[i][side + 1]);
                String below = "- " + (5 - side) + " " + signs[i] + " - 5";
                due(below, Check.holds(below), want[i][side + 1]);
            }
        }
    }

    /** "EITHER: BOTH {or BOTH}. BOTH: ASK {and ASK}. ASK: not ASK": for every truth of three. */
    static void partIIEitherAndBoth() {
        for (int world = 0; world < 8; world++) {
            boolean a = (world & 1) != 0;
            boolean b = (world & 2) != 0;
            boolean c = (world & 4) != 0;
            String p = a ? "1=1" : "1=2";
            String q = b ? "1=1" : "1=2";
            String r = c ? "1=1" : "1=2";
            due(p + " or " + q + " and " + r, Check.holds(p + " or " + q + " and " + r), a || b && c);
            due(p + " and " + q + " or " + r, Check.holds(p + " and " + q + " or " + r), a && b || c);
            due("not " + p + " and " + q, Check.holds("not " + p + " and " + q + " or " + r), !a && b || c);
            due("not " + p + " or not " + q, Check.holds("not " + p + " or not not " + q), !a || b);
        }
    }

    // ---- FAULTS

    /** "the first as TOKENS are come to". */
    static void partIIFaultsTheFirst() {
        fault("day 61;day 0;", 2, 4);
        fault("comes fame + 10000;", 5, 6);
        fault("comes 10000 + fame;", 2, 6);
        fault("comes 1;comes 10000 x", 4, 8);
        fault("foretell 9 some 9", 2, 9);
        fault("foretell 0 some 9", 1, 11);
        fault("day 1;:day 61;", 1, 6);
    }

    /** "at the TOKEN's first byte (of the end at the length)". */
    static void partIIFaultsOfTheEndAtTheLength() {
        fault("day", 1, 3);
        fault("day 1", 1, 5);
        fault("day 1 \n ", 1, 8);
        fault("comes", 1, 5);
        fault("comes (1 + 2", 1, 12);
        fault("comes if 1 < 2 then 3 else 4", 1, 28);
        fault("foretell 0 any 1,", 1, 17);
        fault("day 1" + " ".repeat(295), 1, 300);
    }

    /** "of one the least": 1 where what can't stand there would be another FAULT, too. */
    static void partIIFaultsOfOneTheLeastIs1() {
        // 2: a NUMBER above 9999 where none can stand.
        fault("10000 day 1;", 1, 0);
        fault("day 1 10000;", 1, 6);
        fault("comes 1 10000;", 1, 8);
        // 3: the ninth, where it can't stand.
        fault("comes " + "(".repeat(8) + "not 1", 1, 14);
        fault("comes " + "(".repeat(8) + "1 (", 1, 16);
        fault("comes " + "-".repeat(8) + "1 if", 1, 16);
        // 4: a law for the second time, but not as a CLAUSE's first.
        fault("comes 1;day comes;", 1, 12);
        fault("comes 1 + comes;", 1, 10);
        // 5: a NAME that isn't of that CLAUSE, where none can stand.
        fault("comes 1 fame;", 1, 8);
        fault("fame 1;", 1, 0);
        // 6: what can't begin the 25th CLAUSE.
        fault("day 1;".repeat(24) + "1", 1, 144);
        fault("day 1;".repeat(24) + ";", 1, 144);
        fault("day 1;".repeat(24) + "many", 1, 144);
        // 7: a , behind eight NUMBERS that aren't FACTS.
        fault("comes 1+1+1+1+1+1+1+1,", 1, 21);
    }

    /** "of one the least": 4 of a law for the second time that is the 25th CLAUSE. */
    static void partIIFaultsOfOneTheLeastIs4() {
        fault("dues 1;" + "day 1;".repeat(23) + "dues 1;", 4, 145);
        fault("dues 1;" + "day 1;".repeat(23) + "comes 1;", 6, 145);
    }

    /** "1 it can't stand there, or is none". */
    static void partIIFault1() {
        fault("day 1;;", 1, 6);
        fault("day (1);", 1, 4);
        fault("day -1;", 1, 4);
        fault("comes ;", 1, 6);
        fault("comes 1 +;", 1, 9);
        fault("comes + 1;", 1, 6);
        fault("comes 1 * / 2;", 1, 10);
        fault("comes (1;", 1, 8);
        fault("comes 1);", 1, 7);
        fault("comes ();", 1, 7);
        fault("comes percent 1;", 1, 15);
        fault("comes percent 1 of;", 1, 18);
        fault("comes so;", 1, 8);
        fault("comes if 1 then 1 else 2 end;", 1, 11);
        fault("comes if 1 < 2 or then 1 else 2 end;", 1, 18);
        fault("comes if 1 < 2 then 1 end;", 1, 22);
        fault("comes if 1 < 2 then 1 else 2;", 1, 28);
        fault("comes if 1 < 2 < 3 then 1 else 2 end;", 1, 15);
        fault("comes if (1 < 2) then 1 else 2 end;", 1, 12);
        fault("comes not 1;", 1, 6);
        fault("comes 1 and 1;", 1, 8);
        fault("comes any;", 1, 6);
        fault("comes nobody;", 1, 6);
        fault("fact 1;", 1, 6);
        fault("fact 1 fame 1;", 1, 7);
        fault("prophet 1 cost 1;", 1, 10);
        fault("bring 1 to 1;", 1, 8);
        fault("spoil 1 1;", 1, 8);
        fault("sell 1 by 1 price 1;", 1, 7);
        fault("sell 1 to 1 fee 1;", 1, 12);
        fault("foretell 1 1 in 1 fee 1;", 1, 11);
        fault("foretell 1 any 1 by 1 fee 1;", 1, 17);
        fault("foretell 1 any 1 in 1 price 1;", 1, 22);
        fault("day 1,", 1, 5);
    }

    /** "2 a NUMBER that isn't one of those told (above 9999": wherever a NUMBER stands in a SUM. */
    static void partIIFault2Above9999() {
        Check.range("comes ~;", 0, 9999);
        Check.range("dues 1 + ~;", 0, 9999);
        Check.range("renown 2 * (~);", 0, 9999);
        Check.range("comes percent ~ of 1;", 0, 9999);
        Check.range("comes percent 1 of ~;", 0, 9999);
        Check.range("comes so ~;", 0, 9999);
        Check.range("comes - ~;", 0, 9999);
        Check.range("comes if ~ = 1 then 1 else 1 end;", 0, 9999);
        Check.range("comes if 1 = ~ then 1 else 1 end;", 0, 9999);
        Check.range("comes if 1 = 1 then ~ else 1 end;", 0, 9999);
        Check.range("comes if 1 = 1 then 1 else ~ end;", 0, 9999);
    }

    /** "ODDS 0 .. 10, COST .. 0 .. 99". */
    static void partIIFault2OfFact() {
        Check.range("fact ~ cost 1;", 0, 10);
        Check.range("fact 1 cost ~;", 0, 99);
    }

    /** "(PURSE)", of which no more is told than "above 9999"; "FAME 0 .. 99". */
    static void partIIFault2OfProphet() {
        Check.range("prophet ~ fame 1;", 0, 9999);
        Check.range("prophet 1 fame ~;", 0, 99);
    }

    /** "FACTS 0 .. 7, PROPHETS 0 .. 4, .. DAYS of foretell 1 .. 99, FEE .. 0 .. 999". */
    static void partIIFault2OfForetell() {
        for (String kind : new String[] {"any", "all"}) {
            Check.range("foretell ~ " + kind + " 1 in 1 fee 1;", 0, 4);
            Check.range("foretell 1 " + kind + " ~ in 1 fee 1;", 0, 7);
            Check.range("foretell 1 " + kind + " 1,~ in 1 fee 1;", 0, 7);
            Check.range("foretell 1 " + kind + " 1,2,3,4,5,6,7,~ in 1 fee 1;", 0, 7);
            Check.range("foretell 1 " + kind + " 1 in ~ fee 1;", 1, 99);
            Check.range("foretell 1 " + kind + " 1 in 1 fee ~;", 0, 999);
        }
    }

    /** "FACTS 0 .. 7, PROPHETS 0 .. 4" of bring and spoil. */
    static void partIIFault2OfBringAndSpoil() {
        Check.range("bring ~ by 1;", 0, 7);
        Check.range("bring 1 by ~;", 0, 4);
        Check.range("spoil ~ by 1;", 0, 7);
        Check.range("spoil 1 by ~;", 0, 4);
    }

    /** "PROPHECIES 0 .. 11, .. PROPHETS 0 .. 4, PRICE 0 .. 999". */
    static void partIIFault2OfSell() {
        Check.range("sell ~ to 1 price 1;", 0, 11);
        Check.range("sell 1 to ~ price 1;", 0, 4);
        Check.range("sell 1 to 1 price ~;", 0, 999);
    }

    /** "of day 1 .. 60". */
    static void partIIFault2OfDay() {
        Check.range("day ~;", 1, 60);
    }

    /** What isn't told yet is no FAULT: the NUMBERS are looked at when it is PLAYED. */
    static void partIIFault2NotOfWhatIsntThereYet() {
        fine("bring 7 by 4;spoil 7 by 4;sell 11 to 4 price 999;foretell 4 all 7 in 99 fee 999;");
    }

    /** "3 the 9th of ( .. (at it)". */
    static void partIIFault3OfBrackets() {
        fine("comes " + "(".repeat(8) + "1" + ")".repeat(8) + ";");
        fault("comes " + "(".repeat(9) + "1" + ")".repeat(9) + ";", 3, 14);
        fault("comes " + "(".repeat(9), 3, 14);
        fine("comes (1)+(1)+(1)+(1)+(1)+(1)+(1)+(1)+(1)+(1);");
    }

    /** "3 the 9th of .. not .. (at it)". */
    static void partIIFault3OfNot() {
        fine("comes if " + "not ".repeat(7) + "1=1 then 1 else 2 end;");
        fault("comes if " + "not ".repeat(8) + "1=1 then 1 else 2 end;", 3, 37);
        fine("comes if " + "not ".repeat(7) + "1=1 and " + "not ".repeat(7) + "1=1 then 1 else 2 end;");
        fine("comes if " + "not ".repeat(7) + "1=1 or " + "not ".repeat(7) + "1=1 then 1 else 2 end;");
        fault("comes if " + "not ".repeat(7) + "(1)=1 then 1 else 2 end;", 3, 37);
        fault("comes if " + "not ".repeat(7) + "1=(1) then 1 else 2 end;", 3, 39);
    }

    /** "3 the 9th of .. percent .. (at it; percent till its second is whole)". */
    static void partIIFault3OfPercent() {
        fine("comes " + "percent 1 of ".repeat(8) + "1;");
        fault("comes " + "percent 1 of ".repeat(9) + "1;", 3, 110);
        fine("comes " + "percent ".repeat(8) + "1" + " of 1".repeat(8) + ";");
        fault("comes " + "percent ".repeat(9) + "1" + " of 1".repeat(9) + ";", 3, 70);
        fine("comes " + "(".repeat(7) + "percent 1 of 1" + ")".repeat(7) + ";");
        fault("comes " + "(".repeat(7) + "percent (1) of 1" + ")".repeat(7) + ";", 3, 21);
        fault("comes " + "(".repeat(7) + "percent 1 of (1)" + ")".repeat(7) + ";", 3, 26);
        fault("comes " + "(".repeat(7) + "percent 1 of - 1" + ")".repeat(7) + ";", 3, 26);
        fine("comes " + "(".repeat(7) + "percent 1 of 1 + (1)" + ")".repeat(7) + ";");
        fine("comes " + "(".repeat(7) + "percent 1 of 1 * percent 1 of 1" + ")".repeat(7) + ";");
    }

    /** "3 the 9th of .. so .. (at it)". */
    static void partIIFault3OfSo() {
        fine("comes " + "so ".repeat(8) + "1;");
        fault("comes " + "so ".repeat(9) + "1;", 3, 30);
        fine("comes " + "(".repeat(7) + "so 1 + so 1" + ")".repeat(7) + ";");
        fault("comes " + "(".repeat(7) + "so (1)" + ")".repeat(7) + ";", 3, 16);
    }

    /** "3 the 9th of .. if .. (at it)": it is open till its end. */
    static void partIIFault3OfIf() {
        fault("comes " + "if ".repeat(9), 3, 30);
        fine("comes " + "if ".repeat(8) + "1" + "=1 then 1 else 1 end".repeat(8) + ";");
        String seven = "comes " + "(".repeat(7);
        String close = ")".repeat(7) + ";";
        fine(seven + "if 1=1 then 1 else 1 end" + close);
        fault(seven + "if (1)=1 then 1 else 1 end" + close, 3, 16);
        fault(seven + "if 1=1 then (1) else 1 end" + close, 3, 25);
        fault(seven + "if 1=1 then 1 else (1) end" + close, 3, 32);
        fault(seven + "if 1=1 then 1 else if" + close, 3, 32);
        fine(seven + "if 1=1 then 1 else 1 end + (1)" + close);
        fault("comes " + "(".repeat(8) + "if", 3, 14);
    }

    /** "3 the 9th of .. - (of one ONE)": that between two PRODUCTS isn't one. */
    static void partIIFault3OfMinus() {
        fine("comes " + "-".repeat(8) + "1;");
        fault("comes " + "-".repeat(9) + "1;", 3, 14);
        fine("comes " + "(".repeat(8) + "1-1-1-1" + ")".repeat(8) + ";");
        fault("comes " + "(".repeat(8) + "1--1" + ")".repeat(8) + ";", 3, 16);
        fine("comes 1" + "--1".repeat(20) + ";");
        fine("comes " + "(".repeat(7) + "-1*-1--1" + ")".repeat(7) + ";");
    }

    /** "that are open around one another": all kinds together. */
    static void partIIFault3OfAllKinds() {
        fine("comes (percent so - if not 1 = (- 1) then 1 else 2 end of 3);");
        fault("comes (percent so - if not 1 = (- so 1) then 1 else 2 end of 3);", 3, 34);
        fault("comes (percent so - if not 1 = (- (1", 3, 34);
        // Each CLAUSE begins anew.
        fine("comes " + "(".repeat(8) + "1" + ")".repeat(8) + ";dues " + "(".repeat(8) + "1" + ")".repeat(8) + ";");
    }

    /** "4 comes, dues, renown for the second time (at it)": whatever follows. */
    static void partIIFault4() {
        fault("comes 1;comes", 4, 8);
        fault("comes 1; \n comes 1;", 4, 11);
        fault("dues 1;comes 1;dues", 4, 15);
        fault("renown 1;dues 1;comes 1;renown", 4, 24);
        fault("comes 0;comes 0;", 4, 8);
    }

    /** "5 a NAME that isn't of that CLAUSE (at it)". */
    static void partIIFault5() {
        for (String name : new String[] {"who", "fame", "purse", "fee", "facts", "due"}) {
            fault("comes " + name + ";", 5, 6);
            fault("comes 1 + (" + name + ");", 5, 11);
            fine("dues " + name + ";renown " + name + ";");
        }
        for (String name : new String[] {"fact", "odds", "cost"}) {
            fine("comes " + name + ";");
            fault("dues " + name + ";", 5, 5);
            fault("renown 1 * " + name + ";", 5, 11);
        }
        fault("comes 1;dues fame;renown odds;", 5, 25);
    }

    /** "6 the 25th CLAUSE (at its first TOKEN)": whatever follows. */
    static void partIIFault6() {
        String most = "day 1;".repeat(24);
        for (String first : new String[] {"comes", "dues", "renown", "fact", "prophet", "foretell", "bring", "spoil",
            "sell", "day"}) {
            fault(most + first, 6, 144);
            fault(most + " \n" + first, 6, 146);
        }
        fine(most + " \n ");
    }

    /** "7 the , ahead of the 9th FACT (at it)": whatever follows, and be they unlike or not. */
    static void partIIFault7() {
        fault("foretell 0 any 0,1,2,3,4,5,6,7,0 in 1 fee 1;", 7, 30);
        fault("foretell 0 all 0,0,0,0,0,0,0,0,0 in 1 fee 1;", 7, 30);
        fault("foretell 0 any 0,1,2,3,4,5,6,7 ,", 7, 31);
        fault("foretell 0 any 0,1,2,3,4,5,6,7,99999", 7, 30);
        fault("foretell 0 any 0,1,2,3,4,5,6,8,0", 2, 29);
    }

    // ---- THE TEXT

    /** "THE TEXT (told; at first none) rules": reading and playing one doesn't make it THE TEXT. */
    static void partIITheTextAtFirstNone() {
        ProphetLiable x = Check.facts(3);
        due("about(3)", x.about(3), NONE);
        Check.read(x, "comes 9;day 1;");
        due("about(3) when it is read", x.about(3), NONE);
        x.played(0);
        due("about(3) when it is played", x.about(3), NONE);
        due("ofFact(0, 3)", x.ofFact(0, 3), 3);
        x.by(0);
        due("ofFact(0, 3)", x.ofFact(0, 3), 9);
    }

    /** "comes (the odds of 10): 0 at least, 10 at most". */
    static void partIIComes0AtLeast10AtMost() {
        String[] laws = {"0 - 1", "0", "1", "9", "10", "11", "9999 * 9999", "- 9999 * 9999"};
        int[] want = {0, 0, 1, 9, 10, 10, 10, 0};
        for (int i = 0; i < laws.length; i++) {
            ProphetLiable x = Check.facts(3);
            Check.rule(x, "comes " + laws[i] + ";");
            due("comes " + laws[i], x.ofFact(0, 3), want[i]);
        }
    }

    /** "without: ODDS". */
    static void partIIComesWithout() {
        ProphetLiable x = Check.facts(0, 10, 3);
        Check.rule(x, "dues 5;renown 6;");
        due("ofFact(0, 3)", x.ofFact(0, 3), 0);
        due("ofFact(1, 3)", x.ofFact(1, 3), 10);
        due("ofFact(2, 3)", x.ofFact(2, 3), 3);
    }

    /** "dues: 0 at least, 9999 at most". */
    static void partIIDues0AtLeast9999AtMost() {
        sum("0 - 1", 0);
        sum("0", 0);
        sum("1", 1);
        sum("9999", 9999);
        sum("9999 + 1", 9999);
        sum("9999 * 9999", 9999);
        sum("- 9999 * 9999", 0);
    }

    /** "without: ten times FEE": 9990 at most. */
    static void partIIDuesWithout() {
        ProphetLiable x = Check.quiet(1);
        x.prophet(0, 0);
        x.foretell(0, true, 1, 9, 0);
        x.foretell(0, true, 1, 9, 1);
        x.foretell(0, true, 1, 9, 999);
        Check.rule(x, "comes 5;renown 6;");
        for (int text = NONE; text <= 0; text++) {
            x.by(text);
            due("word(0, 6)", x.word(0, 6), 0);
            due("word(1, 6)", x.word(1, 6), 10);
            due("word(2, 6)", x.word(2, 6), 9990);
        }
    }

    /** What a law of renown comes to for a PROPHECY of three FACTS; none if it is null. */
    private static int renown(String law) {
        ProphetLiable x = Check.quiet(3);
        x.prophet(0, 0);
        x.foretell(0, false, 7, 9, 0);
        x.bring(0, 0);
        if (law != null) {
            Check.rule(x, law);
        }
        x.day(1);
        due("of(0, 1): FAME is more by it", x.of(0, 1), x.book(0, 3));
        return x.book(0, 3);
    }

    /** "renown: 0 at least, 99 at most". */
    static void partIIRenown0AtLeast99AtMost() {
        due("0 - 1", renown("renown 0 - 1;"), 0);
        due("0", renown("renown 0;"), 0);
        due("1", renown("renown 1;"), 1);
        due("99", renown("renown 99;"), 99);
        due("100", renown("renown 100;"), 99);
        due("9999 * 9999", renown("renown 9999 * 9999;"), 99);
        due("- 9999 * 9999", renown("renown - 9999 * 9999;"), 0);
    }

    /** "without: how many FACTS are in it": not how many of them are SO. */
    static void partIIRenownWithout() {
        due("without a TEXT", renown(null), 3);
        due("without the law", renown("comes 0;dues 6;"), 3);
        ProphetLiable x = Check.quiet(8);
        x.prophet(0, 0);
        x.foretell(0, false, 255, 9, 0);
        x.bring(0, 0);
        x.day(1);
        due("of eight", x.book(0, 3), 8);
    }

    // ---- PLAYED

    /** "PLAYED by a TEXT: its CLAUSES but laws": of laws alone nothing is done. */
    static void partIIPlayedButLaws() {
        ProphetLiable x = Check.facts(3);
        Check.read(x, "comes 1;dues 2;renown 3;");
        String before = Check.portrait(x);
        due("played(0)", x.played(0), NONE);
        Check.due("nothing is done", Check.portrait(x), before);
    }

    /** "one that can't be ends it .. : its number among all CLAUSES (from 0)": for each kind. */
    static void partIIPlayedEndsAtOneThatCantBe() {
        String[] acts = {"fact 1 cost 1;", "prophet 1 fame 1;", "foretell 0 all 0 in 1 fee 1;", "bring 0 by 0;",
            "bring 1 by 4;", "spoil 1 by 0;", "spoil 0 by 4;", "sell 0 to 1 price 0;", "sell 11 to 1 price 0;",
            "sell 11 to 4 price 0;", "sell 11 to 0 price 10;"};
        for (String act : acts) {
            ProphetLiable x = fullMarket();
            Check.read(x, "comes 1;bring 0 by 0;dues 1;" + act + "spoil 0 by 0;");
            due("played(0) with " + act, x.played(0), 3);
            due("is(2): what was done stays, no more is done", x.is(2), 1);
            due("of(0, 0)", x.of(0, 0), 8);
        }
    }

    /** Of everything as many as there can be; PROPHECY 0 failed, by which PROPHET 4 is RUINED. */
    private static ProphetLiable fullMarket() {
        ProphetLiable x = Check.facts(0, 0, 0, 0, 0, 0, 0, 0);
        for (int i = 0; i < 5; i++) {
            x.prophet(i == 4 ? 0 : 9, 0);
        }
        x.foretell(4, true, 2, 1, 1);
        x.day(2);
        for (int i = 1; i < 12; i++) {
            x.foretell(1, true, 2, 9, 0);
        }
        due("ruined()", x.ruined(), 16);
        due("is(3)", x.is(3), 12);
        return x;
    }

    /** "its number (from 0)": the first and the last of 24. */
    static void partIIPlayedNumberOfTheFirstAndTheLast() {
        ProphetLiable x = new ProphetLiable();
        Check.read(x, "bring 0 by 0;" + "day 1;".repeat(23));
        Check.read(x, "day 1;".repeat(23) + "bring 0 by 0;");
        due("played(0)", x.played(0), 0);
        due("is(0)", x.is(0), 0);
        due("played(1)", x.played(1), 23);
        due("is(0)", x.is(0), 23);
    }

    /** "of so many DAYS those that can pass do". */
    static void partIIPlayedDaysThatCanPass() {
        ProphetLiable x = new ProphetLiable();
        Check.read(x, "prophet 1 fame 1;day 60;prophet 2 fame 2;");
        Check.pass(x, 9939);
        due("played(0): 60 DAYS of 60", x.played(0), NONE);
        due("is(0)", x.is(0), 9999);
        due("about(1)", x.about(1), 2);
        x = new ProphetLiable();
        Check.read(x, "prophet 1 fame 1;day 60;prophet 2 fame 2;");
        Check.pass(x, 9940);
        due("played(0): 59 DAYS of 60", x.played(0), 1);
        due("is(0)", x.is(0), 9999);
        due("about(1): what was done stays", x.about(1), 1);
        due("undo(): each of these DAYS is a STEP", x.undo(), 29);
        due("is(0)", x.is(0), 9998);
        due("played(0): 1 DAY of 60", x.played(0), 1);
        due("is(0)", x.is(0), 9999);
        due("played(0): none", x.played(0), 1);
        due("about(1)", x.about(1), 3);
    }

    /** "as by hand": each CLAUSE is the STEP that the call would be. */
    static void partIIPlayedAsByHand() {
        ProphetLiable x = new ProphetLiable();
        Check.read(x, "fact 5 cost 1;prophet 90 fame 0;prophet 9 fame 0;bring 0 by 0;foretell 0 any 0 in 3 fee 2;"
            + "sell 0 to 1 price 3;spoil 0 by 1;day 3;");
        due("played(0)", x.played(0), NONE);
        ProphetLiable y = new ProphetLiable();
        y.fact(5, 1);
        y.prophet(90, 0);
        y.prophet(9, 0);
        y.bring(0, 0);
        y.foretell(0, false, 1, 3, 2);
        y.sell(0, 1, 3);
        y.spoil(1, 0);
        y.day(3);
        Check.due("the world", Check.world(x), Check.world(y));
        due("about(4)", x.about(4), y.about(4));
        while (y.undo() >= 0) {
            x.undo();
            Check.due("the world ahead of it", Check.world(x), Check.world(y));
        }
    }
}
