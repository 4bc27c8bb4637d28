/** The boundary cases that "Terms" and part I of the document name, each sentence in a test of its own. */
public final class TermsBoundaryTest {
    private static final int NONE = Check.NONE;

    public static void main(String[] args) {
        Check.main(TermsBoundaryTest.class);
    }

    private static void due(String call, long got, long want) {
        Check.due(call, got, want);
    }

    private static void due(String call, boolean got, boolean want) {
        Check.due(call, got, want);
    }

    // ---- FACTS

    /** "FACTS 0 .. 7 (told one by one)". */
    static void termsFacts0To7() {
        ProphetLiable x = new ProphetLiable();
        for (int i = 0; i <= 7; i++) {
            due("fact", x.fact(i, i), i);
            due("about(0)", x.about(0), i + 1);
        }
        due("the ninth", x.fact(1, 1), NONE);
        due("about(0)", x.about(0), 8);
        due("ofFact(7, 0)", x.ofFact(7, 0), 7);
        due("ofFact(8, 0)", x.ofFact(8, 0), -2);
    }

    /** "ODDS 0 .. 10". */
    static void termsOdds0To10() {
        ProphetLiable x = new ProphetLiable();
        due("fact(-1, 5)", x.fact(-1, 5), NONE);
        due("fact(11, 5)", x.fact(11, 5), NONE);
        due("about(0)", x.about(0), 0);
        due("fact(0, 5)", x.fact(0, 5), 0);
        due("fact(10, 5)", x.fact(10, 5), 1);
        due("ofFact(0, 0)", x.ofFact(0, 0), 0);
        due("ofFact(1, 0)", x.ofFact(1, 0), 10);
    }

    /** "COST 0 .. 99". */
    static void termsCost0To99() {
        ProphetLiable x = new ProphetLiable();
        due("fact(5, -1)", x.fact(5, -1), NONE);
        due("fact(5, 100)", x.fact(5, 100), NONE);
        due("about(0)", x.about(0), 0);
        due("fact(5, 0)", x.fact(5, 0), 0);
        due("fact(5, 99)", x.fact(5, 99), 1);
        due("ofFact(0, 1)", x.ofFact(0, 1), 0);
        due("ofFact(1, 1)", x.ofFact(1, 1), 99);
    }

    /** "SO or not (at first not)": ODDS of 10, too. */
    static void termsFactsAtFirstNotSo() {
        ProphetLiable x = new ProphetLiable();
        for (int i = 0; i <= 7; i++) {
            x.fact(10, 0);
            due("ofFact(" + i + ", 2)", x.ofFact(i, 2), 0);
        }
        due("is(2)", x.is(2), 0);
    }

    // ---- PROPHETS

    /** "PROPHETS 0 .. 4 (told one by one)". */
    static void termsProphets0To4() {
        ProphetLiable x = new ProphetLiable();
        for (int i = 0; i <= 4; i++) {
            due("prophet", x.prophet(i, i), i);
            due("about(1)", x.about(1), i + 1);
        }
        due("the sixth", x.prophet(1, 1), NONE);
        due("about(1)", x.about(1), 5);
        due("of(4, 0)", x.of(4, 0), 4);
        due("of(5, 0)", x.of(5, 0), -2);
    }

    /** "PURSE 0 .. 9999". */
    static void termsPurse0To9999() {
        ProphetLiable x = new ProphetLiable();
        due("prophet(-1, 5)", x.prophet(-1, 5), NONE);
        due("prophet(10000, 5)", x.prophet(10000, 5), NONE);
        due("about(1)", x.about(1), 0);
        due("prophet(0, 5)", x.prophet(0, 5), 0);
        due("prophet(9999, 5)", x.prophet(9999, 5), 1);
        due("of(0, 0)", x.of(0, 0), 0);
        due("of(1, 0)", x.of(1, 0), 9999);
    }

    /** "FAME 0 .. 99". */
    static void termsFame0To99() {
        ProphetLiable x = new ProphetLiable();
        due("prophet(5, -1)", x.prophet(5, -1), NONE);
        due("prophet(5, 100)", x.prophet(5, 100), NONE);
        due("about(1)", x.about(1), 0);
        due("prophet(5, 0)", x.prophet(5, 0), 0);
        due("prophet(5, 99)", x.prophet(5, 99), 1);
        due("of(0, 1)", x.of(0, 1), 0);
        due("of(1, 1)", x.of(1, 1), 99);
    }

    /** "RUINED or not (at first not)": a PURSE of 0, too. */
    static void termsProphetsAtFirstNotRuined() {
        ProphetLiable x = new ProphetLiable();
        x.prophet(0, 0);
        x.prophet(9999, 99);
        due("of(0, 2)", x.of(0, 2), 0);
        due("of(1, 2)", x.of(1, 2), 0);
        due("ruined()", x.ruined(), 0);
    }

    /** "RUINED or not (at first not)": also behind back(), where those with their numbers were RUINED. */
    static void termsProphetsNotRuinedBehindBack() {
        ProphetLiable x = Check.quiet(1);
        for (int i = 0; i < 5; i++) {
            x.prophet(0, 0);
            x.foretell(i, true, 1, 1, 1);
        }
        x.day(2);
        due("ruined()", x.ruined(), 31);
        x.back();
        due("ruined() of nobody", x.ruined(), 0);
        for (int i = 0; i < 5; i++) {
            x.prophet(5, 5);
            due("of(" + i + ", 2)", x.of(i, 2), 0);
        }
        due("ruined()", x.ruined(), 0);
    }

    // ---- PROPHECIES

    /** "PROPHECIES 0 .. 11 (one by one)". */
    static void termsProphecies0To11() {
        ProphetLiable x = Check.quiet(1);
        x.prophet(0, 0);
        for (int i = 0; i <= 11; i++) {
            due("foretell", x.foretell(0, true, 1, 9, i), i);
            due("is(3)", x.is(3), i + 1);
        }
        due("the 13th", x.foretell(0, true, 1, 9, 1), NONE);
        due("is(3)", x.is(3), 12);
        due("word(11, 4)", x.word(11, 4), 11);
        due("word(12, 4)", x.word(12, 4), -2);
    }

    /** "that any or all of some FACTS (at least one) are SO". */
    static void termsPropheciesOfAtLeastOneFact() {
        ProphetLiable x = Check.quiet(8);
        x.prophet(0, 0);
        due("of none, any", x.foretell(0, false, 0, 9, 1), NONE);
        due("of none, all", x.foretell(0, true, 0, 9, 1), NONE);
        due("of one", x.foretell(0, true, 128, 9, 1), 0);
        due("of all", x.foretell(0, false, 255, 9, 1), 1);
        due("of one that isn't told", x.foretell(0, true, 256, 9, 1), NONE);
        due("of one that is and one that isn't told", x.foretell(0, true, 257, 9, 1), NONE);
        due("of LOW", x.foretell(0, true, Check.LOW, 9, 1), NONE);
        due("is(3)", x.is(3), 2);
    }

    /** "FEE 0 .. 999". */
    static void termsFee0To999() {
        ProphetLiable x = Check.quiet(1);
        x.prophet(0, 0);
        due("for -1", x.foretell(0, true, 1, 9, -1), NONE);
        due("for 1000", x.foretell(0, true, 1, 9, 1000), NONE);
        due("is(3)", x.is(3), 0);
        due("of(0, 0)", x.of(0, 0), 0);
        due("for 0", x.foretell(0, true, 1, 9, 0), 0);
        due("of(0, 0)", x.of(0, 0), 0);
        due("for 999", x.foretell(0, true, 1, 9, 999), 1);
        due("of(0, 0)", x.of(0, 0), 999);
        due("word(0, 4)", x.word(0, 4), 0);
        due("word(1, 4)", x.word(1, 4), 999);
    }

    /** "how it is: 0 open, 1 came true, 2 failed". */
    static void termsHowAProphecyIs() {
        ProphetLiable x = Check.quiet(2);
        x.prophet(0, 0);
        x.foretell(0, true, 1, 1, 0);
        x.foretell(0, true, 2, 1, 0);
        x.foretell(0, true, 2, 9, 0);
        x.bring(0, 0);
        x.day(2);
        due("word(0, 5)", x.word(0, 5), 1);
        due("word(1, 5)", x.word(1, 5), 2);
        due("word(2, 5)", x.word(2, 5), 0);
    }

    // ---- DAY, X, BOOK

    /** "DAY 0 .. 9999 (at first 0)". */
    static void termsDay0To9999() {
        ProphetLiable x = new ProphetLiable();
        due("is(0)", x.is(0), 0);
        Check.pass(x, 9998);
        due("is(0)", x.is(0), 9998);
        due("day(1)", x.day(1), 0);
        due("is(0)", x.is(0), 9999);
        due("day(1)", x.day(1), NONE);
        due("is(0)", x.is(0), 9999);
    }

    /** "X: at first 191". */
    static void termsXAtFirst191() {
        due("is(1)", new ProphetLiable().is(1), 191);
    }

    /** "BOOK (the latest 30)": with the 31st the eldest is there no more. */
    static void termsBookLatest30() {
        ProphetLiable x = Check.quiet(1);
        x.prophet(9999, 0);
        x.prophet(9999, 0);
        x.foretell(0, true, 1, 99, 0);
        due("book(NONE, 0)", x.book(NONE, 0), 0);
        for (int i = 0; i < 30; i++) {
            x.sell(0, 1 - i % 2, 100 + i);
            due("book(NONE, 0)", x.book(NONE, 0), i + 1);
        }
        due("book(0, 3)", x.book(0, 3), 100);
        due("book(29, 3)", x.book(29, 3), 129);
        x.sell(0, 1, 130);
        due("book(NONE, 0)", x.book(NONE, 0), 30);
        due("book(0, 3)", x.book(0, 3), 101);
        due("book(29, 3)", x.book(29, 3), 130);
        due("book(30, 3)", x.book(30, 3), -2);
    }

    /** "BOOK: what: 0 it came true (how much: renown), 1 it failed (how much was paid), 2 it was sold (PRICE)". */
    static void termsBookWhat() {
        ProphetLiable x = Check.quiet(4);
        x.prophet(5, 0);
        x.prophet(9, 0);
        x.foretell(0, true, 7, 1, 0);
        x.foretell(0, true, 8, 1, 1);
        x.sell(0, 1, 3);
        x.bring(0, 0);
        x.bring(0, 1);
        x.bring(0, 2);
        x.day(2);
        Check.due("the BOOK", book(x), "0 0 2 3; 0 0 0 3; 1 1 1 3; ");
    }

    /** "how much was paid", "renown", "PRICE": the least and the most, of the first and the last PROPHECY. */
    static void termsBookHowMuch() {
        ProphetLiable x = Check.quiet(2);
        for (int i = 0; i < 4; i++) {
            x.prophet(9999, 0);
        }
        Check.rule(x, "dues 9999 * (1 - fee);renown 99 * (1 - fee);");
        x.foretell(0, true, 1, 1, 0);
        x.foretell(2, true, 1, 1, 1);
        x.foretell(2, true, 2, 1, 1);
        for (int i = 3; i < 11; i++) {
            x.foretell(2, true, 2, 99, 0);
        }
        x.foretell(1, true, 1, 1, 0);
        x.sell(0, 1, 0);
        x.sell(0, 0, 999);
        x.sell(11, 2, 999);
        x.sell(11, 3, 998);
        x.day(1);
        x.bring(2, 1);
        x.day(1);
        Check.due("the BOOK", book(x), "0 0 2 0; 0 0 2 999; 0 11 2 999; 0 11 2 998; 1 0 1 9999; 1 1 1 0; 1 2 0 0; "
            + "1 3 0 99; 1 4 0 99; 1 5 0 99; 1 6 0 99; 1 7 0 99; 1 8 0 99; 1 9 0 99; 1 10 0 99; 1 11 1 9999; ");
    }

    private static String book(ProphetLiable x) {
        StringBuilder sb = new StringBuilder();
        for (int i = 0; i < x.book(NONE, 0); i++) {
            sb.append(x.book(i, 0)).append(' ').append(x.book(i, 1)).append(' ');
            sb.append(x.book(i, 2)).append(' ').append(x.book(i, 3)).append("; ");
        }
        return sb.toString();
    }

    // ---- the calls of an object

    /** "An object is used for at most 512 calls after it has been made": the 512th is answered as the others are. */
    static void termsThe512thCall() {
        ProphetLiable x = Check.quiet(1);
        x.prophet(5, 0);
        for (int calls = 2; calls < 510; calls += 2) {
            x.bring(0, 0);
            x.spoil(0, 0);
        }
        due("the 511th, bring(0, 0)", x.bring(0, 0), true);
        due("the 512th, is(2)", x.is(2), 1);
    }

    // ---- part I: FORETOLD

    /** A market in which PROPHET 0 is RUINED, PROPHETS 1 and 2 are not, and FACT 0 is not SO. */
    private static ProphetLiable withOneRuined() {
        ProphetLiable x = Check.quiet(2);
        x.prophet(0, 0);
        x.prophet(50, 0);
        x.prophet(50, 0);
        x.foretell(0, true, 1, 1, 1);
        x.day(2);
        due("ruined()", x.ruined(), 1);
        return x;
    }

    /** "FORETOLD by a PROPHET that isn't RUINED". */
    static void partIForetoldByOneThatIsntRuined() {
        ProphetLiable x = withOneRuined();
        int steps = x.about(4);
        due("by the RUINED", x.foretell(0, true, 1, 1, 1), NONE);
        due("is(3)", x.is(3), 1);
        due("of(0, 0)", x.of(0, 0), 0);
        due("about(4)", x.about(4), steps);
        due("by another", x.foretell(1, true, 1, 1, 1), 1);
    }

    /** "an open PROPHECY (fewer than 12 there)": those that ended are there, too. */
    static void partIForetoldFewerThan12() {
        ProphetLiable x = Check.quiet(1);
        x.prophet(9, 0);
        for (int i = 0; i < 11; i++) {
            x.foretell(0, true, 1, 1, 0);
        }
        x.day(2);
        due("word(10, 5)", x.word(10, 5), 2);
        due("the twelfth", x.foretell(0, true, 1, 1, 0), 11);
        due("word(11, 5)", x.word(11, 5), 0);
        x.day(2);
        due("idle()", x.idle(), 1);
        due("the 13th, none being open", x.foretell(0, true, 1, 1, 0), NONE);
        due("is(3)", x.is(3), 12);
    }

    /** "due in so many DAYS (1 .. 99)". */
    static void partIForetoldIn1To99Days() {
        ProphetLiable x = Check.quiet(1);
        x.prophet(9, 0);
        x.day(7);
        due("in 0", x.foretell(0, true, 1, 0, 0), NONE);
        due("in -1", x.foretell(0, true, 1, -1, 0), NONE);
        due("in 100", x.foretell(0, true, 1, 100, 0), NONE);
        due("is(3)", x.is(3), 0);
        due("in 1", x.foretell(0, true, 1, 1, 0), 0);
        due("in 99", x.foretell(0, true, 1, 99, 0), 1);
        due("word(0, 3)", x.word(0, 3), 8);
        due("word(1, 3)", x.word(1, 3), 106);
    }

    /** "due in so many DAYS": near the last DAY it is due at one that doesn't come. */
    static void partIForetoldDueBeyondTheLastDay() {
        ProphetLiable x = Check.quiet(1);
        x.prophet(9, 0);
        Check.pass(x, 9999);
        due("in 99", x.foretell(0, true, 1, 99, 0), 0);
        due("word(0, 3)", x.word(0, 3), 10098);
        due("word(0, 5)", x.word(0, 5), 0);
    }

    /** "PURSE is more by FEE (9999 at most)". */
    static void partIForetoldPurse9999AtMost() {
        ProphetLiable x = Check.quiet(1);
        x.prophet(9990, 0);
        x.prophet(9990, 0);
        x.prophet(9990, 0);
        x.prophet(9999, 0);
        x.foretell(0, true, 1, 9, 8);
        x.foretell(1, true, 1, 9, 9);
        x.foretell(2, true, 1, 9, 10);
        x.foretell(3, true, 1, 9, 999);
        due("of(0, 0)", x.of(0, 0), 9998);
        due("of(1, 0)", x.of(1, 0), 9999);
        due("of(2, 0)", x.of(2, 0), 9999);
        due("of(3, 0)", x.of(3, 0), 9999);
        due("word(2, 4): FEE is whole", x.word(2, 4), 10);
    }

    // ---- part I: BROUGHT ABOUT and SPOILT

    /** "BROUGHT ABOUT: a FACT that isn't SO". */
    static void partIBroughtAboutOneThatIsntSo() {
        ProphetLiable x = Check.facts(0, 0);
        x.prophet(9, 0);
        due("bring(0, 1)", x.bring(0, 1), true);
        due("is(2)", x.is(2), 2);
        due("bring(0, 1): it is SO", x.bring(0, 1), false);
        due("of(0, 0)", x.of(0, 0), 7);
        due("is(2)", x.is(2), 2);
        due("about(4)", x.about(4), 1);
    }

    /** "by a PROPHET with PURSE for its COST: PURSE is less by that". */
    static void partIBroughtAboutWithPurseForItsCost() {
        ProphetLiable x = new ProphetLiable();
        x.fact(0, 99);
        x.fact(0, 0);
        x.prophet(98, 0);
        x.prophet(99, 0);
        x.prophet(0, 0);
        due("bring(0, 0) by 98", x.bring(0, 0), false);
        due("of(0, 0)", x.of(0, 0), 98);
        due("is(2)", x.is(2), 0);
        due("about(4)", x.about(4), 0);
        due("bring(1, 0) by 99", x.bring(1, 0), true);
        due("of(1, 0)", x.of(1, 0), 0);
        due("is(2)", x.is(2), 1);
        due("bring(2, 1) for 0 by 0", x.bring(2, 1), true);
        due("is(2)", x.is(2), 3);
    }

    /** "SPOILT: a FACT that is SO". */
    static void partISpoiltOneThatIsSo() {
        ProphetLiable x = Check.facts(0, 0);
        x.prophet(9, 0);
        due("spoil(0, 1): it isn't SO", x.spoil(0, 1), false);
        due("of(0, 0)", x.of(0, 0), 9);
        due("about(4)", x.about(4), 0);
        x.bring(0, 0);
        x.bring(0, 1);
        due("spoil(0, 1)", x.spoil(0, 1), true);
        due("is(2)", x.is(2), 1);
        due("spoil(0, 1) again", x.spoil(0, 1), false);
        due("of(0, 0)", x.of(0, 0), 4);
    }

    /** "SPOILT: .. likewise": by a PROPHET with PURSE for its COST. */
    static void partISpoiltWithPurseForItsCost() {
        ProphetLiable x = new ProphetLiable();
        x.fact(0, 99);
        x.fact(0, 0);
        x.prophet(98, 0);
        x.prophet(198, 0);
        x.prophet(0, 0);
        x.bring(1, 0);
        x.bring(1, 1);
        due("spoil(0, 0) by 98", x.spoil(0, 0), false);
        due("of(0, 0)", x.of(0, 0), 98);
        due("is(2)", x.is(2), 3);
        due("about(4)", x.about(4), 2);
        due("spoil(1, 0) by 99", x.spoil(1, 0), true);
        due("of(1, 0)", x.of(1, 0), 0);
        due("is(2)", x.is(2), 2);
        due("spoil(2, 1) for 0 by 0", x.spoil(2, 1), true);
        due("is(2)", x.is(2), 0);
    }

    /** Neither BROUGHT ABOUT nor SPOILT asks that the PROPHET isn't RUINED. */
    static void partIBroughtAboutAndSpoiltByTheRuined() {
        ProphetLiable x = withOneRuined();
        due("bring(0, 1)", x.bring(0, 1), true);
        due("is(2)", x.is(2), 2);
        due("spoil(0, 1)", x.spoil(0, 1), true);
        due("is(2)", x.is(2), 0);
    }

    // ---- part I: SOLD

    /** "SOLD: an open PROPHECY". */
    static void partISoldAnOpenOne() {
        ProphetLiable x = Check.quiet(2);
        x.prophet(50, 0);
        x.prophet(50, 0);
        x.foretell(0, true, 1, 1, 0);
        x.foretell(0, true, 2, 1, 0);
        x.foretell(0, true, 1, 9, 0);
        x.bring(0, 1);
        x.day(2);
        int steps = x.about(4);
        due("sell(0, 1, 0): it failed", x.sell(0, 1, 0), false);
        due("sell(1, 1, 0): it came true", x.sell(1, 1, 0), false);
        due("word(0, 0)", x.word(0, 0), 0);
        due("word(1, 0)", x.word(1, 0), 0);
        due("book(NONE, 0)", x.book(NONE, 0), 2);
        due("about(4)", x.about(4), steps);
        due("sell(2, 1, 0)", x.sell(2, 1, 0), true);
    }

    /** "to another PROPHET". */
    static void partISoldToAnother() {
        ProphetLiable x = Check.quiet(1);
        x.prophet(50, 0);
        x.prophet(50, 0);
        x.foretell(1, true, 1, 9, 0);
        due("sell(0, 1, 5): whose it is", x.sell(0, 1, 5), false);
        due("book(NONE, 0)", x.book(NONE, 0), 0);
        due("about(4)", x.about(4), 1);
        due("sell(0, 0, 5)", x.sell(0, 0, 5), true);
        due("sell(0, 0, 5): whose it is now", x.sell(0, 0, 5), false);
        due("sell(0, 1, 5): whose it was", x.sell(0, 1, 5), true);
    }

    /** "that isn't RUINED". */
    static void partISoldToOneThatIsntRuined() {
        ProphetLiable x = withOneRuined();
        x.foretell(1, true, 1, 9, 0);
        int steps = x.about(4);
        due("sell(1, 0, 0) to the RUINED", x.sell(1, 0, 0), false);
        due("word(1, 0)", x.word(1, 0), 1);
        due("of(0, 0)", x.of(0, 0), 0);
        due("about(4)", x.about(4), steps);
        due("sell(1, 2, 0)", x.sell(1, 2, 0), true);
    }

    /** The one whose it was may be RUINED: it isn't asked of that one. */
    static void partISoldByTheRuined() {
        ProphetLiable x = Check.quiet(1);
        x.prophet(0, 0);
        x.prophet(0, 0);
        x.foretell(0, true, 1, 1, 1);
        x.foretell(0, true, 1, 9, 0);
        x.day(2);
        due("ruined()", x.ruined(), 1);
        due("sell(1, 1, 1): it has nothing", x.sell(1, 1, 1), false);
        due("sell(1, 1, 0)", x.sell(1, 1, 0), true);
        due("word(1, 0)", x.word(1, 0), 1);
    }

    /** "for a PRICE (0 .. 999)". */
    static void partISoldFor0To999() {
        ProphetLiable x = Check.quiet(1);
        x.prophet(9000, 0);
        x.prophet(0, 0);
        x.foretell(0, true, 1, 9, 0);
        due("for -1", x.sell(0, 1, -1), false);
        due("for 1000", x.sell(0, 1, 1000), false);
        due("word(0, 0)", x.word(0, 0), 0);
        due("book(NONE, 0)", x.book(NONE, 0), 0);
        due("for 999", x.sell(0, 1, 999), true);
        due("of(0, 0)", x.of(0, 0), 8001);
        due("of(1, 0)", x.of(1, 0), 999);
        due("for 0", x.sell(0, 0, 0), true);
        due("of(1, 0)", x.of(1, 0), 999);
    }

    /** "that the one whose it was has". */
    static void partISoldForWhatItHas() {
        ProphetLiable x = Check.quiet(1);
        x.prophet(40, 0);
        x.prophet(999, 0);
        x.foretell(0, true, 1, 9, 2);
        due("for 43 of 42", x.sell(0, 1, 43), false);
        due("of(0, 0)", x.of(0, 0), 42);
        due("word(0, 0)", x.word(0, 0), 0);
        due("for 42 of 42", x.sell(0, 1, 42), true);
        due("of(0, 0)", x.of(0, 0), 0);
        due("of(1, 0)", x.of(1, 0), 1041);
    }

    /** "it pays that to the other one (9999 at most)". */
    static void partISoldTheOther9999AtMost() {
        ProphetLiable x = Check.quiet(1);
        x.prophet(900, 0);
        x.prophet(9990, 0);
        x.prophet(9990, 0);
        x.foretell(0, true, 1, 9, 0);
        x.foretell(0, true, 1, 9, 0);
        x.sell(0, 1, 9);
        due("of(1, 0)", x.of(1, 0), 9999);
        due("of(0, 0)", x.of(0, 0), 891);
        x.sell(1, 2, 10);
        due("of(2, 0)", x.of(2, 0), 9999);
        due("of(0, 0): it pays all of it", x.of(0, 0), 881);
        due("book(1, 3): the PRICE", x.book(1, 3), 10);
    }

    /** "whose it is then; written down". */
    static void partISoldIsWrittenDown() {
        ProphetLiable x = Check.quiet(1);
        x.prophet(900, 0);
        x.prophet(0, 0);
        x.day(3);
        x.foretell(0, true, 1, 9, 0);
        x.foretell(0, true, 1, 9, 0);
        x.sell(1, 1, 0);
        due("word(1, 0)", x.word(1, 0), 1);
        due("of(0, 3)", x.of(0, 3), 1);
        due("of(1, 3)", x.of(1, 3), 1);
        Check.due("the BOOK", book(x), "3 1 2 0; ");
    }

    // ---- part I: A DAY

    /** A market without FACTS whose next draw is this one. */
    private static ProphetLiable drawing(int draw) {
        for (int seed = 0; seed <= 9999; seed++) {
            int x = seed * 2 + 191;
            // 3 that doesn't spoil: YEARS that do nothing but set X.
            if (x % 6 == 3 && x % 5 != 0 && Check.next(x) % 10 == draw) {
                ProphetLiable market = new ProphetLiable();
                market.years(seed, 1);
                return market;
            }
        }
        throw new IllegalStateException("no SEED for " + draw);
    }

    /** "a draw by 10 (X mod 10 ..): below comes: it is SO": for each draw and all ODDS. */
    static void partIDayDrawBelowComes() {
        for (int draw = 0; draw <= 9; draw++) {
            for (int odds = 0; odds <= 10; odds++) {
                ProphetLiable x = drawing(draw);
                x.fact(odds, 0);
                x.day(1);
                due("draw " + draw + " by ODDS " + odds + ": is(2)", x.is(2), draw < odds ? 1 : 0);
            }
        }
    }

    /** "X being (X * 431 + 311) mod 30553 then": once for each draw. */
    static void partIDayXAnew() {
        ProphetLiable x = Check.quiet(1);
        int want = 191;
        for (int i = 0; i < 200; i++) {
            x.day(1);
            want = Check.next(want);
            due("is(1) on DAY " + (i + 1), x.is(1), want);
        }
    }

    /** "by FACTS that aren't SO: a draw": not for those that are, and none without FACTS. */
    static void partIDayDrawsForFactsThatArentSo() {
        ProphetLiable x = new ProphetLiable();
        x.day(3);
        due("is(1) without FACTS", x.is(1), 191);
        x = Check.quiet(8);
        x.prophet(0, 0);
        int want = 191;
        for (int so = 0; so <= 8; so++) {
            x.day(1);
            for (int i = so; i < 8; i++) {
                want = Check.next(want);
            }
            due("is(1) with " + so + " FACTS that are SO", x.is(1), want);
            x.bring(0, so);
        }
    }

    /** "by FACTS": the lowest draws first. From 191 on the draws are 1, 6, 8. */
    static void partIDayFactsInTheirOrder() {
        ProphetLiable x = Check.facts(1, 7, 8);
        x.day(1);
        due("is(2)", x.is(2), 2);
        x = Check.facts(2, 6, 9);
        x.day(1);
        due("is(2)", x.is(2), 5);
    }

    /** "below comes": by THE TEXT each FACT that came just now counts for the next one. */
    static void partIDayComesWithWhatCameJustNow() {
        ProphetLiable x = Check.quiet(3);
        Check.rule(x, "comes if fact = 1 then 10 else so 1 * 10 end;");
        x.day(1);
        due("is(2): not for the one ahead of it", x.is(2), 6);
        x.day(1);
        due("is(2)", x.is(2), 7);
    }

    /** "is it SO: it came true": a FACT that came on this very DAY counts. */
    static void partIDayCameTrueOnTheDayItsFactCame() {
        ProphetLiable x = Check.facts(10);
        x.prophet(0, 0);
        x.foretell(0, true, 1, 9, 0);
        due("day(1)", x.day(1), 1);
        due("word(0, 5)", x.word(0, 5), 1);
        due("book(0, 0)", x.book(0, 0), 0);
    }

    /** "is it SO: it came true .. else, if DAY is its DAY of being due": SO comes first. */
    static void partIDayCameTrueOnTheDayItIsDue() {
        ProphetLiable x = Check.quiet(1);
        x.prophet(0, 0);
        x.foretell(0, true, 1, 1, 1);
        x.day(1);
        x.bring(0, 0);
        due("is(0)", x.is(0), x.word(0, 3));
        due("day(1)", x.day(1), 1);
        due("word(0, 5)", x.word(0, 5), 1);
        due("ruined()", x.ruined(), 0);
    }

    /** "by PROPHECIES that are open": those that ended stay as they are, whatever becomes of their FACTS. */
    static void partIDayThoseThatEndedStay() {
        ProphetLiable x = Check.quiet(2);
        x.prophet(50, 0);
        x.foretell(0, true, 1, 1, 0);
        x.foretell(0, true, 2, 1, 1);
        x.bring(0, 0);
        due("day(2)", x.day(2), 2);
        x.spoil(0, 0);
        x.bring(0, 1);
        due("day(3)", x.day(3), 0);
        due("word(0, 5)", x.word(0, 5), 1);
        due("word(1, 5)", x.word(1, 5), 2);
        due("of(0, 0)", x.of(0, 0), 41);
        due("of(0, 1)", x.of(0, 1), 1);
        Check.due("the BOOK", book(x), "0 0 0 1; 1 1 1 10; ");
    }

    /** "FAME of whose it is is more by renown (99 at most)". */
    static void partIDayFame99AtMost() {
        ProphetLiable x = Check.quiet(2);
        x.prophet(0, 96);
        x.prophet(0, 97);
        x.prophet(0, 98);
        x.prophet(0, 99);
        for (int i = 0; i < 4; i++) {
            x.foretell(i, true, 3, 9, 0);
        }
        x.bring(0, 0);
        x.bring(0, 1);
        due("day(1)", x.day(1), 4);
        due("of(0, 1)", x.of(0, 1), 98);
        due("of(1, 1)", x.of(1, 1), 99);
        due("of(2, 1)", x.of(2, 1), 99);
        due("of(3, 1)", x.of(3, 1), 99);
        due("book(3, 3): the renown", x.book(3, 3), 2);
    }

    /** "if DAY is its DAY of being due or later: it failed". */
    static void partIDayFailedAtTheDayItIsDue() {
        ProphetLiable x = Check.quiet(1);
        x.prophet(99, 0);
        x.foretell(0, true, 1, 3, 0);
        for (int day = 0; day < 3; day++) {
            due("DAY " + day, x.day(1), 0);
            due("word(0, 5) behind DAY " + day, x.word(0, 5), 0);
        }
        due("is(0)", x.is(0), 3);
        due("DAY 3", x.day(1), 1);
        due("word(0, 5)", x.word(0, 5), 2);
        due("book(0, 0)", x.book(0, 0), 3);
    }

    /** "dues are paid, PURSE at most: PURSE is less". */
    static void partIDayDuesPurseAtMost() {
        ProphetLiable x = Check.quiet(1);
        Check.rule(x, "dues 100;");
        x.prophet(101, 0);
        x.prophet(100, 0);
        x.prophet(99, 0);
        x.prophet(0, 0);
        for (int i = 0; i < 4; i++) {
            x.foretell(i, true, 1, 1, 0);
        }
        due("day(2)", x.day(2), 4);
        due("of(0, 0)", x.of(0, 0), 1);
        due("of(1, 0)", x.of(1, 0), 0);
        due("of(2, 0)", x.of(2, 0), 0);
        due("of(3, 0)", x.of(3, 0), 0);
        Check.due("the BOOK", book(x), "1 0 1 100; 1 1 1 100; 1 2 1 99; 1 3 1 0; ");
    }

    /** "is that less than dues: the PROPHET is RUINED": not by paying just so much, nor by dues of 0. */
    static void partIDayRuinedByLessThanDues() {
        ProphetLiable x = Check.quiet(1);
        Check.rule(x, "dues 100 * facts - fee;");
        x.prophet(101, 0);
        x.prophet(100, 0);
        x.prophet(99, 0);
        x.prophet(0, 0);
        for (int i = 0; i < 4; i++) {
            x.foretell(i, true, 1, 1, 0);
        }
        x.day(2);
        due("ruined()", x.ruined(), 12);
        x = Check.quiet(1);
        x.prophet(0, 0);
        x.foretell(0, true, 1, 1, 0);
        x.day(2);
        due("word(0, 5)", x.word(0, 5), 2);
        due("ruined() by dues of 0 and nothing", x.ruined(), 0);
    }

    /** "is that less than dues: the PROPHET is RUINED": one that is paying for another one it bought. */
    static void partIDayTheOneWhoseItIsPays() {
        ProphetLiable x = Check.quiet(1);
        x.prophet(500, 0);
        x.prophet(0, 0);
        x.foretell(0, true, 1, 1, 3);
        x.sell(0, 1, 0);
        x.day(2);
        due("of(0, 0)", x.of(0, 0), 503);
        due("ruined()", x.ruined(), 2);
    }

    /** "Both written down": in the order of PROPHECIES, at the DAY ahead of "DAY is one more". */
    static void partIDayBothWrittenDown() {
        ProphetLiable x = Check.quiet(2);
        x.prophet(500, 0);
        x.foretell(0, true, 1, 2, 1);
        x.foretell(0, false, 3, 2, 2);
        x.foretell(0, true, 1, 2, 3);
        x.day(2);
        x.bring(0, 1);
        due("day(1)", x.day(1), 3);
        Check.due("the BOOK", book(x), "2 0 1 10; 2 1 0 2; 2 2 1 30; ");
    }

    /** "DAY is one more (at 9999 none can pass)": by hand, by a TEXT, by YEARS, and ahead. */
    static void partIDayNoneCanPassAt9999() {
        ProphetLiable x = Check.facts(5);
        x.prophet(50, 0);
        Check.read(x, "day 1;");
        Check.pass(x, 9999);
        x.foretell(0, true, 1, 1, 0);
        String before = Check.world(x);
        int steps = x.about(4);
        due("day(1)", x.day(1), NONE);
        due("day(60)", x.day(60), NONE);
        due("played(0)", x.played(0), 0);
        due("ahead(1, 0, 0)", x.ahead(1, 0, 0), x.is(2));
        due("until(0)", x.until(0), NONE);
        Check.due("nothing is done", Check.world(x), before);
        due("about(4)", x.about(4), steps);
        // 191 mod 6 is 5: a DAY, which can't pass.
        due("years(0, 1)", x.years(0, 1), 9999);
        due("is(0)", x.is(0), 9999);
        due("is(1): no draw but that of YEARS", x.is(1), Check.next(191));
    }

    // ---- part I: STEPS

    /** "STEPS: FORETOLD, BROUGHT ABOUT, SPOILT, SOLD, a DAY (each), YEARS": each is one. */
    static void partIStepsAreThese() {
        ProphetLiable x = Check.quiet(1);
        x.prophet(50, 0);
        x.prophet(50, 0);
        due("about(4)", x.about(4), 0);
        x.foretell(0, true, 1, 9, 0);
        due("FORETOLD", x.about(4), 1);
        x.bring(0, 0);
        due("BROUGHT ABOUT", x.about(4), 2);
        x.spoil(0, 0);
        due("SPOILT", x.about(4), 3);
        x.sell(0, 1, 1);
        due("SOLD", x.about(4), 4);
        x.day(1);
        due("a DAY", x.about(4), 5);
        x.day(7);
        due("seven DAYS", x.about(4), 12);
        x.years(5, 40);
        due("YEARS", x.about(4), 13);
    }

    /** STEPS are these alone: what is told, read, heard and asked is none. */
    static void partIStepsAreNoOthers() {
        ProphetLiable x = new ProphetLiable();
        x.fact(5, 5);
        x.prophet(5, 5);
        Check.rule(x, "comes 5;");
        x.offer(true, 1, 1, 1);
        x.heard(0, true);
        x.owed(NONE, 0);
        x.ahead(5, 0, 0);
        x.purse(5, true);
        x.image();
        due("about(4)", x.about(4), 0);
        due("undo()", x.undo(), NONE);
        due("about(0)", x.about(0), 1);
    }

    /** What is refused is no STEP. */
    static void partIStepsNotOfRefusedCalls() {
        ProphetLiable x = Check.facts(0);
        x.prophet(0, 0);
        x.foretell(0, true, 2, 1, 1);
        x.bring(0, 0);
        x.spoil(0, 0);
        x.sell(0, 0, 0);
        x.day(0);
        x.day(61);
        x.years(-1, 1);
        x.years(1, 41);
        x.played(0);
        due("about(4)", x.about(4), 0);
        due("undo()", x.undo(), NONE);
    }

    /** "the latest 30 can be taken back". */
    static void partIStepsTheLatest30() {
        ProphetLiable x = Check.facts(5);
        x.day(30);
        due("about(4) of 30", x.about(4), 30);
        x.day(1);
        due("about(4) of 31", x.about(4), 30);
        x.day(60);
        due("about(4) of 91", x.about(4), 30);
        for (int left = 29; left >= 0; left--) {
            due("undo()", x.undo(), left);
            due("is(0)", x.is(0), 61 + left);
        }
        due("undo()", x.undo(), NONE);
        due("is(0)", x.is(0), 61);
        x.day(2);
        due("about(4)", x.about(4), 2);
    }

    /** "the latest 30 .., the latest first": each as it was, also where older ones went. */
    static void partIStepsTheLatestFirst() {
        ProphetLiable x = Check.facts(1, 0, 0);
        x.prophet(900, 0);
        x.prophet(900, 0);
        x.foretell(0, true, 4, 99, 5);
        String[] worlds = new String[37];
        for (int i = 0; i < 37; i++) {
            worlds[i] = x.is(0) + " " + x.is(1) + " " + x.is(2) + " " + x.of(0, 0) + " " + x.word(0, 0);
            if (i % 3 == 0) {
                x.day(1);
            } else if (i % 3 == 1) {
                x.sell(0, 1 - x.word(0, 0), i);
            } else if (!x.bring(0, 1)) {
                x.spoil(0, 1);
            }
        }
        for (int i = 36; i >= 7; i--) {
            due("undo()", x.undo(), i - 7);
            Check.due("ahead of STEP " + i, x.is(0) + " " + x.is(1) + " " + x.is(2) + " " + x.of(0, 0) + " "
                + x.word(0, 0), worlds[i]);
        }
        due("undo()", x.undo(), NONE);
    }

    /** "all of FACTS, PROPHETS, PROPHECIES .., DAY, X, BOOK are as ahead of it", for each kind of STEP. */
    static void partIStepsAllIsAsAheadOfIt() {
        for (int kind = 0; kind < 6; kind++) {
            ProphetLiable x = Check.facts(2, 10, 0);
            x.prophet(30, 5);
            x.prophet(40, 6);
            x.foretell(0, true, 2, 9, 4);
            x.foretell(0, true, 4, 1, 8);
            x.foretell(1, true, 4, 1, 1);
            x.sell(2, 0, 3);
            x.day(1);
            x.bring(0, 0);
            String before = Check.world(x);
            due("kind " + kind + " is done", step(x, kind), true);
            due("kind " + kind + " changes the world", Check.world(x).equals(before), false);
            x.undo();
            Check.due("kind " + kind + " is taken back", Check.world(x), before);
        }
    }

    private static boolean step(ProphetLiable x, int kind) {
        switch (kind) {
            case 0:
                return x.foretell(1, true, 1, 1, 1) == 3;
            case 1:
                return x.bring(1, 2);
            case 2:
                return x.spoil(1, 0);
            case 3:
                return x.sell(2, 1, 1);
            case 4:
                return x.day(1) == 2 && x.ruined() == 1;
            default:
                return x.years(3, 40) > 1;
        }
    }

    /** ".. BOOK .. as ahead of it": also the eldest one that the full BOOK had let go. */
    static void partIStepsBookAsAheadOfIt() {
        ProphetLiable x = Check.quiet(1);
        x.prophet(900, 0);
        x.prophet(900, 0);
        x.foretell(0, true, 1, 99, 5);
        for (int i = 0; i < 31; i++) {
            x.sell(0, 1 - i % 2, i);
        }
        due("book(0, 3)", x.book(0, 3), 1);
        x.undo();
        due("book(NONE, 0)", x.book(NONE, 0), 30);
        due("book(0, 3)", x.book(0, 3), 0);
        due("book(29, 3)", x.book(29, 3), 29);
        x.undo();
        due("book(NONE, 0)", x.book(NONE, 0), 29);
        due("book(29, 3)", x.book(29, 3), -2);
    }

    /** Those FORETOLD behind undo() are open, whatever became of the ones that had their numbers. */
    static void partIStepsThoseForetoldAnewAreOpen() {
        ProphetLiable x = Check.quiet(2);
        x.prophet(999, 0);
        x.bring(0, 0);
        for (int i = 0; i < 12; i++) {
            x.foretell(0, true, 1 + i % 2, 1, 7);
        }
        due("day(2)", x.day(2), 12);
        for (int i = 0; i < 14; i++) {
            x.undo();
        }
        due("is(3)", x.is(3), 0);
        for (int i = 0; i < 12; i++) {
            due("foretell", x.foretell(0, false, 2, 3 + i, 0), i);
            due("word(" + i + ", 1)", x.word(i, 1), 0);
            due("word(" + i + ", 3)", x.word(i, 3), 3 + i);
            due("word(" + i + ", 4)", x.word(i, 4), 0);
            due("word(" + i + ", 5)", x.word(i, 5), 0);
        }
    }

    /** What is none of "FACTS, PROPHETS, PROPHECIES .., DAY, X, BOOK" isn't taken back. */
    static void partIStepsTheRestStays() {
        ProphetLiable x = Check.quiet(2);
        x.prophet(9, 0);
        x.foretell(0, true, 1, 9, 0);
        x.day(1);
        Check.rule(x, "comes 0;dues 5;");
        x.offer(true, 1, 3, 4);
        x.heard(0, true);
        x.owed(0, 5);
        x.image();
        x.feed(1, 2, 3, 4, 5);
        due("undo()", x.undo(), 1);
        due("undo()", x.undo(), 0);
        int[] about = {2, 1, 1, 0, 0, 1, 1, 1, 20};
        for (int what = 0; what <= 8; what++) {
            due("about(" + what + ")", x.about(what), about[what]);
        }
        due("worst(1)", x.worst(1), 4);
        due("fault(0)", x.fault(0), 0);
        due("back(): THE IMAGE, too", x.back(), 1);
        due("is(3)", x.is(3), 1);
    }

    /** "those told since are as told": FACTS are there, and not SO. */
    static void partIStepsFactsToldSinceAreAsTold() {
        ProphetLiable x = new ProphetLiable();
        x.prophet(50, 0);
        x.day(1);
        x.fact(10, 7);
        x.day(1);
        due("is(2)", x.is(2), 1);
        due("undo()", x.undo(), 1);
        due("undo()", x.undo(), 0);
        due("is(0)", x.is(0), 0);
        due("about(0)", x.about(0), 1);
        due("is(2)", x.is(2), 0);
        due("ofFact(0, 0)", x.ofFact(0, 0), 10);
        due("ofFact(0, 1)", x.ofFact(0, 1), 7);
        due("the next number", x.fact(1, 1), 1);
    }

    /** "those told since are as told": PROPHETS have the PURSE and FAME they were told with, and aren't RUINED. */
    static void partIStepsProphetsToldSinceAreAsTold() {
        ProphetLiable x = Check.quiet(2);
        x.prophet(50, 0);
        x.bring(0, 0);
        x.prophet(5, 60);
        x.prophet(6, 61);
        x.foretell(1, true, 1, 9, 3);
        x.foretell(2, true, 2, 1, 9);
        x.day(2);
        due("ruined()", x.ruined(), 4);
        due("of(1, 1)", x.of(1, 1), 61);
        for (int left = 4; left >= 0; left--) {
            due("undo()", x.undo(), left);
        }
        due("about(1)", x.about(1), 3);
        due("of(1, 0)", x.of(1, 0), 5);
        due("of(1, 1)", x.of(1, 1), 60);
        due("of(2, 0)", x.of(2, 0), 6);
        due("of(2, 1)", x.of(2, 1), 61);
        due("ruined()", x.ruined(), 0);
        due("is(3)", x.is(3), 0);
        due("is(2)", x.is(2), 0);
    }

    /** "those told since are as told": also if there was nobody ahead of that STEP, and behind back(). */
    static void partIStepsTheFirstProphetToldSince() {
        ProphetLiable x = new ProphetLiable();
        x.day(1);
        x.image();
        x.prophet(50, 6);
        due("undo()", x.undo(), 0);
        due("about(1)", x.about(1), 1);
        due("of(0, 0)", x.of(0, 0), 50);
        due("of(0, 1)", x.of(0, 1), 6);
        x.back();
        x.prophet(70, 8);
        due("undo()", x.undo(), 0);
        due("of(0, 0)", x.of(0, 0), 70);
        due("of(0, 1)", x.of(0, 1), 8);
    }
}
