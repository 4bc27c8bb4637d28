/** The boundary cases that the promises 1 to 44 name, each sentence in a test of its own. */
public final class PromiseBoundaryTest {
    private static final int NONE = Check.NONE;
    private static final int LOW = Check.LOW;
    private static final int HIGH = Check.HIGH;

    /** Numbers that are none of FACTS, PROPHETS, PROPHECIES or TEXTS, however many there are. */
    private static final int[] STRANGE = {LOW, -32, -2, -1, 12, 31, 32, 33, 64, 256, 1 << 30, HIGH};

    public static void main(String[] args) {
        Check.main(PromiseBoundaryTest.class);
    }

    private static void due(String call, long got, long want) {
        Check.due(call, got, want);
    }

    private static void due(String call, boolean got, boolean want) {
        Check.due(call, got, want);
    }

    /**
     * A small market in which something of each kind is told: FACT 0 is SO, FACT 1 isn't; PROPHECY 0
     * is open, 1 came true, 2 failed, by which PROPHET 2 is RUINED.
     */
    private static ProphetLiable small() {
        ProphetLiable x = Check.facts(0, 0);
        x.prophet(70, 5);
        x.prophet(80, 6);
        x.prophet(0, 7);
        x.foretell(0, true, 2, 50, 3);
        x.foretell(1, false, 3, 1, 4);
        x.foretell(2, true, 2, 1, 1);
        x.bring(1, 0);
        x.day(2);
        Check.read(x, "dues 30;");
        x.offer(true, 1, 5, 6);
        x.heard(0, true);
        x.owed(0, 30);
        x.feed(1, 2, 3, 4, 5);
        return x;
    }

    // ---- promise 1

    /** "Nobody": nothing is told, nothing is there. */
    static void promise1Nobody() {
        ProphetLiable x = new ProphetLiable();
        for (int what = 0; what <= 8; what++) {
            due("about(" + what + ")", x.about(what), what == 3 ? NONE : 0);
        }
        due("is(0)", x.is(0), 0);
        due("is(1)", x.is(1), 191);
        due("is(2)", x.is(2), 0);
        due("is(3)", x.is(3), 0);
        due("book(NONE, 0)", x.book(NONE, 0), 0);
        due("ruined()", x.ruined(), 0);
        due("idle()", x.idle(), 0);
        due("whose()", x.whose(), 0);
        due("ledger(0)", x.ledger(0), 0);
    }

    /** "THE IMAGE is this": back() of one that never made an image. */
    static void promise1TheImageIsThis() {
        ProphetLiable x = new ProphetLiable();
        due("back() at once", x.back(), 0);
        String first = Check.portrait(x);
        x = small();
        x.by(0);
        due("back()", x.back(), 0);
        for (int what = 0; what <= 7; what++) {
            due("about(" + what + ")", x.about(what), what == 3 ? NONE : 0);
        }
        x = new ProphetLiable();
        x.fact(1, 1);
        x.prophet(1, 1);
        x.years(3, 40);
        x.back();
        Check.due("the market", Check.portrait(x), first);
    }

    /** Each object is a market of its own. */
    static void promise1OneIsntAnother() {
        ProphetLiable x = small();
        ProphetLiable y = new ProphetLiable();
        due("about(0)", y.about(0), 0);
        due("about(8)", y.about(8), 0);
        due("is(1)", y.is(1), 191);
        y.back();
        due("about(0) of the first", x.about(0), 2);
    }

    // ---- promises 2 and 3

    /** "NONE for others": too low, too high, in each of both. */
    static void promise2NoneForOthers() {
        ProphetLiable x = small();
        String before = Check.portrait(x);
        int[][] others = {{-1, 5}, {11, 5}, {5, -1}, {5, 100}, {LOW, 5}, {HIGH, 5}, {5, LOW}, {5, HIGH}, {-1, -1}};
        for (int[] o : others) {
            due("fact(" + o[0] + ", " + o[1] + ")", x.fact(o[0], o[1]), NONE);
        }
        Check.due("nothing is told", Check.portrait(x), before);
        due("fact(10, 99)", x.fact(10, 99), 2);
    }

    /** "or if there are 8". */
    static void promise2NoneIfThereAre8() {
        ProphetLiable x = Check.quiet(7);
        due("the eighth", x.fact(4, 6), 7);
        String before = Check.world(x);
        due("the ninth", x.fact(5, 7), NONE);
        due("the tenth", x.fact(0, 0), NONE);
        Check.due("nothing is told", Check.world(x), before);
    }

    /** "NONE for others": too low, too high, in each of both. */
    static void promise3NoneForOthers() {
        ProphetLiable x = small();
        String before = Check.portrait(x);
        int[][] others = {{-1, 5}, {10000, 5}, {5, -1}, {5, 100}, {LOW, 5}, {HIGH, 5}, {5, LOW}, {5, HIGH}, {-1, -1}};
        for (int[] o : others) {
            due("prophet(" + o[0] + ", " + o[1] + ")", x.prophet(o[0], o[1]), NONE);
        }
        Check.due("nobody is told", Check.portrait(x), before);
        due("prophet(9999, 99)", x.prophet(9999, 99), 3);
    }

    /** "or if there are 5": RUINED ones are there, too. */
    static void promise3NoneIfThereAre5() {
        ProphetLiable x = small();
        due("the fourth", x.prophet(1, 2), 3);
        due("the fifth", x.prophet(3, 4), 4);
        String before = Check.world(x);
        due("the sixth", x.prophet(5, 6), NONE);
        Check.due("nobody is told", Check.world(x), before);
    }

    // ---- promises 4 to 8

    /** "Twenty bytes come behind the tape, the highest of a first". */
    static void promise4TheHighestOfAFirst() {
        ProphetLiable x = new ProphetLiable();
        // "day 1;fact 2 cost 30" and ";day 4 ;" with blanks behind it.
        due("feed", x.feed(0x64617920, 0x313b6661, 0x63742032, 0x20636f73, 0x74203330), 20);
        due("feed", x.feed(0x3b646179, 0x2034203b, 0x20202020, 0x0a0a0a0a, 0x20202020), 40);
        due("text()", x.text(), 0);
        due("played(0)", x.played(0), NONE);
        due("is(0)", x.is(0), 5);
        due("ofFact(0, 0)", x.ofFact(0, 0), 2);
        due("ofFact(0, 1)", x.ofFact(0, 1), 30);
    }

    /** Bytes are 0 to 255, also of numbers below 0. */
    static void promise4BytesOfNumbersBelow0() {
        ProphetLiable x = new ProphetLiable();
        x.feed(0x6461792f, 0, 0, 0, 0);
        x.end(3);
        x.feed(-1, LOW, HIGH, 0x80808080, 0xa0a0a0a0);
        due("about(8)", x.about(8), 23);
        due("text()", x.text(), NONE);
        due("fault(0)", x.fault(0), 1);
        due("fault(1)", x.fault(1), 3);
        // 160 and 138 are 32 and 10 with the highest bit: no blanks.
        x.feed(0x2020200a, 0x20202020, 0x2020208a, 0xa0202020, 0x20202020);
        due("text()", x.text(), NONE);
        due("fault(1)", x.fault(1), 11);
    }

    /** "NONE, and none come, if there would be more than 300". */
    static void promise4NoneBeyond300() {
        ProphetLiable x = new ProphetLiable();
        for (int i = 1; i <= 15; i++) {
            due("feed", x.feed(0x20202020, 0x20202020, 0x20202020, 0x20202020, 0x20202020), 20 * i);
        }
        due("feed at 300", x.feed(0, 0, 0, 0, 0), NONE);
        due("about(8)", x.about(8), 300);
        for (int length = 299; length > 280; length -= 6) {
            x.end(length);
            due("feed at " + length, x.feed(0, 0, 0, 0, 0), NONE);
            due("about(8)", x.about(8), length);
        }
        x.end(281);
        due("feed at 281", x.feed(0, 0, 0, 0, 0), NONE);
        due("text(): none came", x.text(), 0);
        for (int i = 1; i <= 15; i++) {
            due("feed", x.feed(0x20202020, 0x20202020, 0x20202020, 0x20202020, 0x20202020), 20 * i);
        }
        x.end(280);
        due("feed at 280", x.feed(0x20202020, 0x20202020, 0x20202020, 0x20202020, 0x2020207c), 300);
        due("text()", x.text(), NONE);
        due("fault(1): the last byte", x.fault(1), 299);
    }

    /** "The tape has its first n bytes alone: n": all of them, and none. */
    static void promise5TheFirstNBytes() {
        ProphetLiable x = new ProphetLiable();
        due("end(0) of an empty tape", x.end(0), 0);
        x.feed(0x64617920, 0x323b7878, 0x78787878, 0x78787878, 0x78787878);
        due("end(20)", x.end(20), 20);
        due("about(8)", x.about(8), 20);
        due("end(6)", x.end(6), 6);
        due("about(8)", x.about(8), 6);
        due("text()", x.text(), 0);
        x.feed(0x64617920, 0x323b7878, 0x78787878, 0x78787878, 0x78787878);
        due("end(0)", x.end(0), 0);
        due("about(8)", x.about(8), 0);
        due("end(1): what was cut off is gone", x.end(1), NONE);
        due("text() of nothing", x.text(), 1);
    }

    /** "NONE, and nothing is done, if it has not so many". */
    static void promise5NoneIfItHasNotSoMany() {
        ProphetLiable x = new ProphetLiable();
        due("end(1) of an empty tape", x.end(1), NONE);
        x.feed(0, 0, 0, 0, 0);
        due("end(21)", x.end(21), NONE);
        due("end(300)", x.end(300), NONE);
        due("end(HIGH)", x.end(HIGH), NONE);
        due("about(8)", x.about(8), 20);
        x.end(7);
        due("end(8)", x.end(8), NONE);
        due("about(8)", x.about(8), 7);
    }

    /** "or n is below 0". */
    static void promise5NoneBelow0() {
        ProphetLiable x = new ProphetLiable();
        due("end(-1) of an empty tape", x.end(-1), NONE);
        x.feed(0, 0, 0, 0, 0);
        due("end(-1)", x.end(-1), NONE);
        due("end(-2)", x.end(-2), NONE);
        due("end(LOW)", x.end(LOW), NONE);
        due("about(8)", x.about(8), 20);
    }

    /** "The tape (empty then) is a TEXT". */
    static void promise6TheTapeIsEmptyThen() {
        ProphetLiable x = new ProphetLiable();
        due("text() of an empty tape", x.text(), 0);
        due("text()", Check.read(x, "day 1;"), 1);
        due("about(8)", x.about(8), 0);
        due("text(): nothing of it is left", x.text(), 2);
        due("played(2)", x.played(2), NONE);
        due("is(0)", x.is(0), 0);
    }

    /** "NONE: it has a FAULT": no TEXT is there, and the next one has its number. */
    static void promise6NoneWithAFault() {
        ProphetLiable x = new ProphetLiable();
        due("text()", Check.read(x, "day"), NONE);
        due("about(2)", x.about(2), 0);
        due("by(0)", x.by(0), false);
        due("about(8): but for 4 TEXTS no tape stays", x.about(8), 0);
        due("text()", Check.read(x, "day 1;"), 0);
        due("text()", Check.read(x, "dues 1;dues 2;"), NONE);
        due("about(2)", x.about(2), 1);
        due("text()", Check.read(x, "day 2;"), 1);
        due("played(1)", x.played(1), NONE);
        due("is(0)", x.is(0), 2);
    }

    /** "NONE: .. or (the tape stays) there are 4": it isn't read, whether or not it has a FAULT. */
    static void promise6NoneIfThereAre4() {
        ProphetLiable x = new ProphetLiable();
        Check.read(x, "day 61;");
        for (int i = 0; i < 3; i++) {
            x.text();
        }
        due("text()", Check.read(x, "fact 1 cost 1;"), 3);
        Check.put(x, "day 5;day 0;");
        due("text() with a FAULT", x.text(), NONE);
        due("about(8)", x.about(8), 12);
        due("fault(0)", x.fault(0), 0);
        due("fault(1)", x.fault(1), NONE);
        x.end(6);
        due("text() without", x.text(), NONE);
        due("about(8)", x.about(8), 6);
        due("about(2)", x.about(2), 4);
        due("played(3): it is as it was", x.played(3), NONE);
        due("about(0)", x.about(0), 1);
        x.back();
        due("text(): the same tape, when there is room", x.text(), 0);
        due("played(0)", x.played(0), NONE);
        due("is(0)", x.is(0), 5);
    }

    /** "0 its FAULT (0 without), 1 its place (NONE without)": of the latest one that was read. */
    static void promise7OfTheLatestText() {
        ProphetLiable x = new ProphetLiable();
        Check.read(x, "x");
        due("fault(0)", x.fault(0), 1);
        due("fault(1): the first byte", x.fault(1), 0);
        Check.read(x, "day 1;");
        due("fault(0) without", x.fault(0), 0);
        due("fault(1) without", x.fault(1), NONE);
        Check.read(x, "day 0;");
        due("fault(0)", x.fault(0), 2);
        due("fault(1)", x.fault(1), 4);
        x.text();
        due("fault(0) of nothing", x.fault(0), 0);
        due("fault(1)", x.fault(1), NONE);
    }

    /** "NONE for others". */
    static void promise7NoneForOthers() {
        ProphetLiable x = new ProphetLiable();
        Check.read(x, "day 0;");
        due("fault(-1)", x.fault(-1), NONE);
        due("fault(2)", x.fault(2), NONE);
        due("fault(LOW)", x.fault(LOW), NONE);
        due("fault(HIGH)", x.fault(HIGH), NONE);
    }

    /** "and ahead of any": what is on the tape isn't read yet. */
    static void promise7NoneAheadOfAny() {
        ProphetLiable x = new ProphetLiable();
        Check.put(x, "day 0;");
        due("fault(0)", x.fault(0), NONE);
        due("fault(1)", x.fault(1), NONE);
        due("fault(2)", x.fault(2), NONE);
        x.back();
        due("fault(0)", x.fault(0), NONE);
    }

    /** "THE TEXT (NONE: none): true": also where there is none. */
    static void promise8NoneIsNone() {
        ProphetLiable x = new ProphetLiable();
        due("by(NONE) without TEXTS", x.by(NONE), true);
        due("about(3)", x.about(3), NONE);
        x = Check.facts(4);
        Check.rule(x, "comes 9;");
        due("about(3)", x.about(3), 0);
        due("by(NONE)", x.by(NONE), true);
        due("about(3)", x.about(3), NONE);
        due("ofFact(0, 3)", x.ofFact(0, 3), 4);
    }

    /** "False for others": THE TEXT is what it was. */
    static void promise8FalseForOthers() {
        ProphetLiable x = Check.facts(4);
        due("by(0) without TEXTS", x.by(0), false);
        Check.read(x, "comes 8;");
        Check.rule(x, "comes 9;");
        for (int text : new int[] {2, 3, 4, -2, LOW, HIGH}) {
            due("by(" + text + ")", x.by(text), false);
            due("about(3)", x.about(3), 1);
            due("ofFact(0, 3)", x.ofFact(0, 3), 9);
        }
        due("by(0)", x.by(0), true);
    }

    // ---- promises 9 to 16

    /** "NONE for others": each of what it takes, too low, too high. */
    static void promise9NoneForOthers() {
        ProphetLiable x = small();
        String before = Check.portrait(x);
        for (int prophet : STRANGE) {
            due("by " + prophet, x.foretell(prophet, true, 1, 1, 1), NONE);
        }
        due("by 3, who isn't told", x.foretell(3, true, 1, 1, 1), NONE);
        due("by 2, who is RUINED", x.foretell(2, true, 1, 1, 1), NONE);
        for (int facts : new int[] {0, 4, 5, 8, 256, LOW, HIGH, -1, -2}) {
            due("of " + facts, x.foretell(0, true, facts, 1, 1), NONE);
        }
        for (int days : new int[] {0, -1, 100, LOW, HIGH}) {
            due("in " + days, x.foretell(0, true, 1, days, 1), NONE);
        }
        for (int fee : new int[] {-1, 1000, LOW, HIGH}) {
            due("for " + fee, x.foretell(0, true, 1, 1, fee), NONE);
        }
        Check.due("nothing is foretold", Check.portrait(x), before);
        due("foretell(1, false, 3, 99, 999)", x.foretell(1, false, 3, 99, 999), 3);
    }

    /** "or if there are 12": nobody has the FEE. */
    static void promise9NoneIfThereAre12() {
        ProphetLiable x = Check.quiet(1);
        x.prophet(50, 0);
        for (int i = 0; i < 12; i++) {
            due("foretell", x.foretell(0, true, 1, 1, 1), i);
        }
        due("the 13th", x.foretell(0, true, 1, 1, 1), NONE);
        due("is(3)", x.is(3), 12);
        due("of(0, 0)", x.of(0, 0), 62);
        due("about(4)", x.about(4), 12);
        x.undo();
        due("the twelfth again", x.foretell(0, true, 1, 1, 1), 11);
    }

    /** "False, if it can't be". */
    static void promise10FalseIfItCantBe() {
        ProphetLiable x = small();
        String before = Check.portrait(x);
        due("bring(0, 0): it is SO", x.bring(0, 0), false);
        due("bring(2, 1): it is too dear", x.bring(2, 1), false);
        Check.due("nothing is done", Check.portrait(x), before);
        due("bring(0, 1)", x.bring(0, 1), true);
    }

    /** "and for others". */
    static void promise10FalseForOthers() {
        ProphetLiable x = small();
        String before = Check.portrait(x);
        for (int other : STRANGE) {
            due("bring(" + other + ", 1)", x.bring(other, 1), false);
            due("bring(0, " + other + ")", x.bring(0, other), false);
        }
        due("bring(3, 1)", x.bring(3, 1), false);
        due("bring(0, 2)", x.bring(0, 2), false);
        Check.due("nothing is done", Check.portrait(x), before);
    }

    /** "False, if it can't be". */
    static void promise11FalseIfItCantBe() {
        ProphetLiable x = small();
        String before = Check.portrait(x);
        due("spoil(0, 1): it isn't SO", x.spoil(0, 1), false);
        due("spoil(2, 0): it is too dear", x.spoil(2, 0), false);
        Check.due("nothing is done", Check.portrait(x), before);
        due("spoil(0, 0)", x.spoil(0, 0), true);
    }

    /** "and for others". */
    static void promise11FalseForOthers() {
        ProphetLiable x = small();
        String before = Check.portrait(x);
        for (int other : STRANGE) {
            due("spoil(" + other + ", 0)", x.spoil(other, 0), false);
            due("spoil(0, " + other + ")", x.spoil(0, other), false);
        }
        due("spoil(3, 0)", x.spoil(3, 0), false);
        due("spoil(0, 2)", x.spoil(0, 2), false);
        Check.due("nothing is done", Check.portrait(x), before);
    }

    /** "False, if it can't be". */
    static void promise12FalseIfItCantBe() {
        ProphetLiable x = small();
        String before = Check.portrait(x);
        due("sell(1, 0, 1): it came true", x.sell(1, 0, 1), false);
        due("sell(2, 0, 0): it failed", x.sell(2, 0, 0), false);
        due("sell(0, 0, 1): to itself", x.sell(0, 0, 1), false);
        due("sell(0, 2, 1): to the RUINED", x.sell(0, 2, 1), false);
        due("sell(0, 1, 74): it has 73", x.sell(0, 1, 74), false);
        Check.due("nothing is done", Check.portrait(x), before);
        due("sell(0, 1, 73)", x.sell(0, 1, 73), true);
    }

    /** "and for others". */
    static void promise12FalseForOthers() {
        ProphetLiable x = small();
        String before = Check.portrait(x);
        for (int other : STRANGE) {
            due("sell(" + other + ", 1, 1)", x.sell(other, 1, 1), false);
            due("sell(0, " + other + ", 1)", x.sell(0, other, 1), false);
        }
        due("sell(3, 1, 1)", x.sell(3, 1, 1), false);
        due("sell(0, 3, 1)", x.sell(0, 3, 1), false);
        for (int price : new int[] {-1, 1000, LOW, HIGH}) {
            due("sell(0, 1, " + price + ")", x.sell(0, 1, price), false);
        }
        Check.due("nothing is done", Check.portrait(x), before);
    }

    /** "DAYS pass (1 .. 60): how many PROPHECIES end in them": none to twelve. */
    static void promise13HowManyEnd() {
        ProphetLiable x = Check.quiet(1);
        x.prophet(50, 0);
        due("day(60) without PROPHECIES", x.day(60), 0);
        for (int i = 0; i < 12; i++) {
            x.foretell(0, true, 1, i < 6 ? 1 : i, 0);
        }
        due("day(1)", x.day(1), 0);
        due("day(1)", x.day(1), 6);
        due("day(6): of 6, 7", x.day(6), 2);
        due("day(60)", x.day(60), 4);
        due("day(60)", x.day(60), 0);
        x = Check.quiet(1);
        x.prophet(50, 0);
        for (int i = 0; i < 12; i++) {
            x.foretell(0, true, 1, 59, 0);
        }
        due("day(60): all twelve", x.day(60), 12);
    }

    /** "NONE for others". */
    static void promise13NoneForOthers() {
        ProphetLiable x = small();
        String before = Check.portrait(x);
        for (int n : new int[] {0, -1, 61, 9999, LOW, HIGH}) {
            due("day(" + n + ")", x.day(n), NONE);
        }
        Check.due("nothing is done", Check.portrait(x), before);
        due("day(60)", x.day(60), 1);
        due("is(0)", x.is(0), 62);
    }

    /** "or beyond 9999 (nothing is done then)". */
    static void promise13NoneBeyond9999() {
        ProphetLiable x = Check.facts(5);
        x.prophet(9, 0);
        Check.pass(x, 9940);
        x.foretell(0, true, 1, 1, 0);
        String before = Check.portrait(x);
        due("day(60) at 9940", x.day(60), NONE);
        Check.due("nothing is done", Check.portrait(x), before);
        due("day(59) at 9940", x.day(59), 1);
        due("is(0)", x.is(0), 9999);
        due("day(1) at 9999", x.day(1), NONE);
    }

    /** "PLAYED by a TEXT: NONE: all is done; else the number of the CLAUSE that can't be". */
    static void promise14NoneIfAllIsDone() {
        ProphetLiable x = new ProphetLiable();
        Check.read(x, "");
        Check.read(x, "prophet 1 fame 1;");
        due("played(0)", x.played(0), NONE);
        for (int i = 0; i < 5; i++) {
            due("played(1)", x.played(1), NONE);
        }
        due("played(1): the sixth can't be", x.played(1), 0);
    }

    /** "-2 for others". */
    static void promise14OthersForOthers() {
        ProphetLiable x = new ProphetLiable();
        due("played(0) without TEXTS", x.played(0), -2);
        x = small();
        String before = Check.portrait(x);
        for (int text : new int[] {LOW, -2, -1, 1, 2, 3, 4, HIGH}) {
            due("played(" + text + ")", x.played(text), -2);
        }
        Check.due("nothing is done", Check.portrait(x), before);
    }

    /** "NONE for others". */
    static void promise15NoneForOthers() {
        ProphetLiable x = small();
        String before = Check.portrait(x);
        for (int seed : new int[] {-1, 10000, LOW, HIGH}) {
            due("years(" + seed + ", 1)", x.years(seed, 1), NONE);
        }
        for (int n : new int[] {0, -1, 41, LOW, HIGH}) {
            due("years(5, " + n + ")", x.years(5, n), NONE);
        }
        Check.due("nothing is done", Check.portrait(x), before);
        due("years(9999, 40)", x.years(9999, 40) >= 2, true);
    }

    /** "how many can be yet": down to 0. */
    static void promise16HowManyCanBeYet() {
        ProphetLiable x = Check.quiet(1);
        x.prophet(5, 0);
        x.bring(0, 0);
        x.spoil(0, 0);
        due("undo()", x.undo(), 1);
        due("undo()", x.undo(), 0);
        due("undo()", x.undo(), NONE);
        due("about(4)", x.about(4), 0);
        x.day(60);
        due("undo(): of the latest 30", x.undo(), 29);
        x.day(1);
        due("about(4)", x.about(4), 30);
        due("undo()", x.undo(), 29);
    }

    /** "NONE: there is none": nothing is done. */
    static void promise16NoneThereIsNone() {
        ProphetLiable x = new ProphetLiable();
        due("undo() of a new one", x.undo(), NONE);
        x.fact(1, 1);
        x.prophet(1, 1);
        x.offer(true, 1, 1, 1);
        String before = Check.portrait(x);
        due("undo()", x.undo(), NONE);
        Check.due("nothing is done", Check.portrait(x), before);
        x.day(31);
        for (int i = 0; i < 30; i++) {
            x.undo();
        }
        due("undo() of the 31st", x.undo(), NONE);
        due("is(0)", x.is(0), 1);
    }

    // ---- promises 17 to 23

    /** "2 whether it is RUINED (1, 0), 3 how many open PROPHECIES are its": none to twelve. */
    static void promise17HowManyOpen() {
        ProphetLiable x = Check.quiet(1);
        x.prophet(5, 0);
        for (int i = 0; i < 12; i++) {
            due("of(0, 3)", x.of(0, 3), i);
            x.foretell(0, true, 1, 9, 0);
        }
        due("of(0, 3)", x.of(0, 3), 12);
        x.bring(0, 0);
        due("of(0, 3): SO, but open yet", x.of(0, 3), 12);
        x.day(1);
        due("of(0, 3)", x.of(0, 3), 0);
        due("of(0, 2)", x.of(0, 2), 0);
        due("of(2, 2)", small().of(2, 2), 1);
    }

    /** "-2 for others". */
    static void promise17OthersForOthers() {
        due("of(0, 0) of nobody", new ProphetLiable().of(0, 0), -2);
        ProphetLiable x = small();
        for (int other : STRANGE) {
            due("of(" + other + ", 0)", x.of(other, 0), -2);
            due("of(0, " + other + ")", x.of(0, other), -2);
        }
        due("of(3, 0)", x.of(3, 0), -2);
        due("of(0, 5)", x.of(0, 5), -2);
        due("of(2, 4)", x.of(2, 4), 0);
    }

    /** "-2 for others". */
    static void promise18OthersForOthers() {
        due("ofFact(0, 0) of none", new ProphetLiable().ofFact(0, 0), -2);
        ProphetLiable x = small();
        for (int other : STRANGE) {
            due("ofFact(" + other + ", 0)", x.ofFact(other, 0), -2);
            due("ofFact(0, " + other + ")", x.ofFact(0, other), -2);
        }
        due("ofFact(2, 0)", x.ofFact(2, 0), -2);
        due("ofFact(0, 4)", x.ofFact(0, 4), -2);
        due("ofFact(1, 3)", x.ofFact(1, 3), 0);
    }

    /** "2 whether it is SO (1, 0)". */
    static void promise18WhetherItIsSo() {
        ProphetLiable x = Check.quiet(8);
        x.prophet(0, 0);
        for (int i = 0; i < 8; i += 7) {
            due("ofFact(" + i + ", 2)", x.ofFact(i, 2), 0);
            x.bring(0, i);
            due("ofFact(" + i + ", 2)", x.ofFact(i, 2), 1);
            x.spoil(0, i);
            due("ofFact(" + i + ", 2)", x.ofFact(i, 2), 0);
        }
    }

    /** "3 comes now": of a FACT that is SO, too, and as THE TEXT says now. */
    static void promise18ComesNow() {
        ProphetLiable x = Check.facts(4, 5);
        x.prophet(9, 0);
        x.bring(0, 0);
        due("ofFact(0, 3)", x.ofFact(0, 3), 4);
        Check.rule(x, "comes many + day;");
        due("ofFact(0, 3)", x.ofFact(0, 3), 1);
        x.day(7);
        due("ofFact(1, 3)", x.ofFact(1, 3), 7 + Integer.bitCount(x.is(2)));
        x.day(60);
        due("ofFact(1, 3): 10 at most", x.ofFact(1, 3), 10);
    }

    /** "-2 for others". */
    static void promise19OthersForOthers() {
        due("word(0, 0) of none", new ProphetLiable().word(0, 0), -2);
        ProphetLiable x = small();
        for (int other : STRANGE) {
            due("word(" + other + ", 0)", x.word(other, 0), -2);
            due("word(0, " + other + ")", x.word(0, other), -2);
        }
        due("word(3, 0)", x.word(3, 0), -2);
        due("word(0, 8)", x.word(0, 8), -2);
        due("word(2, 7)", x.word(2, 7), 0);
        x.undo();
        x.undo();
        x.undo();
        x.undo();
        due("word(2, 0): taken back", x.word(2, 0), -2);
    }

    /** "1 whether all (1, 0)", "7 whether it is SO now (1, 0)": of none, some and all of its FACTS. */
    static void promise19WhetherItIsSoNow() {
        ProphetLiable x = Check.quiet(3);
        x.prophet(5, 0);
        x.foretell(0, true, 3, 9, 0);
        x.foretell(0, false, 3, 9, 0);
        due("word(0, 1)", x.word(0, 1), 1);
        due("word(1, 1)", x.word(1, 1), 0);
        x.bring(0, 2);
        due("word(0, 7): of none", x.word(0, 7), 0);
        due("word(1, 7)", x.word(1, 7), 0);
        x.bring(0, 1);
        due("word(0, 7): of some", x.word(0, 7), 0);
        due("word(1, 7)", x.word(1, 7), 1);
        x.bring(0, 0);
        due("word(0, 7): of all", x.word(0, 7), 1);
        due("word(1, 7)", x.word(1, 7), 1);
        x.day(1);
        x.spoil(0, 0);
        due("word(0, 5)", x.word(0, 5), 1);
        due("word(0, 7): it came true, but isn't so now", x.word(0, 7), 0);
    }

    /** "-2 for others". */
    static void promise20OthersForOthers() {
        ProphetLiable x = small();
        for (int other : STRANGE) {
            due("is(" + other + ")", x.is(other), -2);
        }
        due("is(4)", x.is(4), -2);
        due("is(3)", x.is(3), 3);
    }

    /** "BOOK: how many (i NONE)": none to 30. */
    static void promise21HowMany() {
        due("book(NONE, 0)", new ProphetLiable().book(NONE, 0), 0);
        ProphetLiable x = small();
        due("book(NONE, 0)", x.book(NONE, 0), 2);
        for (int i = 0; i < 40; i++) {
            x.sell(0, 1 - i % 2, 0);
            due("book(NONE, 0)", x.book(NONE, 0), Math.min(30, 3 + i));
        }
    }

    /** "-2 if there is none such". */
    static void promise21OtherIfThereIsNoneSuch() {
        due("book(0, 0) of none", new ProphetLiable().book(0, 0), -2);
        ProphetLiable x = small();
        due("book(1, 1)", x.book(1, 1), 2);
        due("book(2, 1)", x.book(2, 1), -2);
        for (int i : new int[] {-2, 29, 30, 31, LOW, HIGH, 1 << 30}) {
            due("book(" + i + ", 0)", x.book(i, 0), -2);
        }
        x.undo();
        due("book(1, 1): taken back", x.book(1, 1), -2);
    }

    /** "and for others". */
    static void promise21OtherForOthers() {
        ProphetLiable x = small();
        for (int what : STRANGE) {
            due("book(0, " + what + ")", x.book(0, what), -2);
        }
        due("book(0, 4)", x.book(0, 4), -2);
        due("book(0, 3)", x.book(0, 3), 2);
    }

    /** "0 FACTS (whichever)". */
    static void promise22FactsWhichever() {
        ProphetLiable x = Check.facts(10);
        for (int which : STRANGE) {
            due("ahead(1, 0, " + which + ")", x.ahead(1, 0, which), 1);
        }
        due("ahead(60, 0, 0) of none", new ProphetLiable().ahead(60, 0, 0), 0);
    }

    /** "NONE for others". */
    static void promise22NoneForOthers() {
        ProphetLiable x = small();
        for (int n : new int[] {0, -1, 61, LOW, HIGH}) {
            due("ahead(" + n + ", 0, 0)", x.ahead(n, 0, 0), NONE);
            due("ahead(" + n + ", 1, 0)", x.ahead(n, 1, 0), NONE);
            due("ahead(" + n + ", 2, 0)", x.ahead(n, 2, 0), NONE);
        }
        for (int other : STRANGE) {
            due("ahead(1, " + other + ", 0)", x.ahead(1, other, 0), NONE);
            due("ahead(1, 1, " + other + ")", x.ahead(1, 1, other), NONE);
            due("ahead(1, 2, " + other + ")", x.ahead(1, 2, other), NONE);
        }
        due("ahead(1, 3, 0)", x.ahead(1, 3, 0), NONE);
        due("ahead(1, 1, 3)", x.ahead(1, 1, 3), NONE);
        due("ahead(1, 2, 3)", x.ahead(1, 2, 3), NONE);
        due("ahead(1, 1, 2)", x.ahead(1, 1, 2), 0);
        due("ahead(1, 2, 2)", x.ahead(1, 2, 2), 2);
    }

    /** "NONE: none, and for others (not open)". */
    static void promise23NoneForOthers() {
        ProphetLiable x = small();
        for (int other : STRANGE) {
            due("until(" + other + ")", x.until(other), NONE);
        }
        due("until(3): not told", x.until(3), NONE);
        due("until(1): it came true", x.until(1), NONE);
        due("until(2): it failed", x.until(2), NONE);
        due("until(0)", x.until(0), 49);
    }

    // ---- promises 24 to 29

    /** "the upper (low false), the lower one (low true). NONE for others". */
    static void promise24NoneForOthers() {
        ProphetLiable x = small();
        for (int i = 0; i < 2; i++) {
            boolean low = i == 1;
            for (int facts : new int[] {0, 4, 5, 256, -1, LOW, HIGH}) {
                due("odds of " + facts, x.odds(true, facts, 1, low), NONE);
                due("odds of any of " + facts, x.odds(false, facts, 1, low), NONE);
            }
            for (int days : new int[] {0, -1, 5, LOW, HIGH}) {
                due("odds in " + days, x.odds(true, 1, days, low), NONE);
            }
            due("odds of none told", new ProphetLiable().odds(true, 1, 1, low), NONE);
        }
        due("the upper", x.odds(true, 1, 4, false), 1);
        due("the lower", x.odds(true, 2, 4, true), 1);
    }

    /** "NONE for others (no open ones": none at all, or one that ended. */
    static void promise25NoneForNoOpenOnes() {
        ProphetLiable x = small();
        for (int set : new int[] {0, 2, 4, 6, 3, 5, 7}) {
            due("least(" + set + ", false)", x.least(set, false), NONE);
            due("least(" + set + ", true)", x.least(set, true), NONE);
        }
        due("least(1, false)", x.least(1, false), 2);
        due("least(1, true)", x.least(1, true), 2);
        due("least(0, false) of none", new ProphetLiable().least(0, false), NONE);
        x = withTheFirstEnded();
        due("least(1, false)", x.least(1, false), NONE);
        due("least(3, true)", x.least(3, true), NONE);
        due("least(2, false)", x.least(2, false), 2);
    }

    /** A market of whose two PROPHECIES the first one failed. */
    private static ProphetLiable withTheFirstEnded() {
        ProphetLiable x = Check.quiet(2);
        x.prophet(0, 0);
        x.foretell(0, true, 1, 1, 0);
        x.foretell(0, true, 2, 9, 0);
        x.day(2);
        return x;
    }

    /** ".. or not told)". */
    static void promise25NoneForOnesNotTold() {
        ProphetLiable x = small();
        for (int set : new int[] {8, 9, 2048, 4096, 4097, -1, LOW, HIGH, LOW | 1, 1 << 30}) {
            due("least(" + set + ", false)", x.least(set, false), NONE);
            due("least(" + set + ", true)", x.least(set, true), NONE);
        }
        due("least(1, true) of none", new ProphetLiable().least(1, true), NONE);
    }

    /** "NONE for others (likewise)": no open ones. */
    static void promise26NoneForNoOpenOnes() {
        ProphetLiable x = small();
        for (int set : new int[] {0, 2, 4, 6, 3, 5, 7}) {
            due("stop(" + set + ")", x.stop(set), NONE);
        }
        due("stop(1)", x.stop(1), 2);
        due("stop(0) of none", new ProphetLiable().stop(0), NONE);
        x = withTheFirstEnded();
        due("stop(1)", x.stop(1), NONE);
        due("stop(3)", x.stop(3), NONE);
        due("stop(2)", x.stop(2), 2);
    }

    /** "NONE for others (likewise)": not told. */
    static void promise26NoneForOnesNotTold() {
        ProphetLiable x = small();
        for (int set : new int[] {8, 9, 2048, 4096, 4097, -1, LOW, HIGH, LOW | 1, 1 << 30}) {
            due("stop(" + set + ")", x.stop(set), NONE);
        }
        due("stop(1) of none", new ProphetLiable().stop(1), NONE);
    }

    /** "(fee NONE: none any more)": also if there are 8, or none. */
    static void promise27NoneAnyMore() {
        ProphetLiable x = Check.quiet(1);
        due("offer(true, 1, NONE, 0) of none", x.offer(true, 1, NONE, 0), 0);
        for (int i = 1; i <= 8; i++) {
            due("offer", x.offer(true, 1, 5, 5), i);
        }
        due("offer(true, 1, NONE, 0)", x.offer(true, 1, NONE, 0), 0);
        due("about(5)", x.about(5), 0);
        due("worst(1)", x.worst(1), NONE);
        due("purse(99, true)", x.purse(99, true), 0);
        due("offer", x.offer(false, 1, 7, 7), 1);
        due("worst(1)", x.worst(1), 7);
    }

    /** "-2 for others": nothing is offered. */
    static void promise27OtherForOthers() {
        ProphetLiable x = small();
        String before = Check.portrait(x);
        for (int facts : new int[] {0, 4, 5, 256, -1, LOW, HIGH}) {
            due("of " + facts, x.offer(true, facts, 1, 1), -2);
        }
        for (int fee : new int[] {-2, 1000, LOW, HIGH}) {
            due("for " + fee, x.offer(true, 1, fee, 1), -2);
        }
        for (int dues : new int[] {-1, -2, 1000, LOW, HIGH}) {
            due("dues " + dues, x.offer(true, 1, 1, dues), -2);
        }
        Check.due("nothing is offered", Check.portrait(x), before);
        due("offer(false, 3, 999, 999)", x.offer(false, 3, 999, 999), 2);
    }

    /** "or if there are 8". */
    static void promise27OtherIfThereAre8() {
        ProphetLiable x = Check.quiet(1);
        for (int i = 1; i <= 8; i++) {
            due("offer", x.offer(true, 1, i, i), i);
        }
        due("the ninth", x.offer(true, 1, 900, 0), -2);
        due("about(5)", x.about(5), 8);
        due("purse(0, true)", x.purse(0, true), 36);
    }

    /** "WITHIN A PURSE: the set (fees false; bits), FEES together (fees true)": of none on offer the empty one. */
    static void promise28OfNoneOnOffer() {
        ProphetLiable x = new ProphetLiable();
        due("purse(0, false)", x.purse(0, false), 0);
        due("purse(9999, true)", x.purse(9999, true), 0);
        x = Check.quiet(1);
        for (int i = 1; i <= 8; i++) {
            x.offer(true, 1, 999, 999);
        }
        due("purse(0, false): all eight", x.purse(0, false), 255);
        due("purse(0, true)", x.purse(0, true), 7992);
    }

    /** "NONE for others". */
    static void promise28NoneForOthers() {
        ProphetLiable x = small();
        for (int most : new int[] {-1, 10000, LOW, HIGH}) {
            due("purse(" + most + ", false)", x.purse(most, false), NONE);
            due("purse(" + most + ", true)", x.purse(most, true), NONE);
        }
        due("purse(9999, true)", x.purse(9999, true), 5);
    }

    /** "NONE for others": a set with one that isn't on offer. */
    static void promise29NoneForOthers() {
        ProphetLiable x = small();
        for (int words : new int[] {2, 3, 255, 256, 257, -1, LOW, HIGH, LOW | 1}) {
            due("worst(" + words + ")", x.worst(words), NONE);
        }
        due("worst(1)", x.worst(1), 6);
        due("worst(0)", x.worst(0), 0);
        due("worst(1) of none", new ProphetLiable().worst(1), NONE);
    }

    // ---- promises 30 to 36

    /** "(fact NONE: none any more)": also if there are 8, or none. */
    static void promise30NoneAnyMore() {
        ProphetLiable x = Check.quiet(2);
        x.prophet(0, 0);
        x.foretell(0, true, 1, 9, 0);
        due("heard(NONE, true) of none", x.heard(NONE, true), 0);
        for (int i = 1; i <= 8; i++) {
            due("heard", x.heard(0, true), i);
        }
        due("worlds(0, 0)", x.worlds(0, 0), 2);
        due("heard(NONE, false)", x.heard(NONE, false), 0);
        due("about(6)", x.about(6), 0);
        due("worlds(0, 0)", x.worlds(0, 0), 4);
        due("heard(1, false)", x.heard(1, false), 1);
    }

    /** "-2 for others": nothing is HEARD. */
    static void promise30OtherForOthers() {
        due("heard(0, true) of none", new ProphetLiable().heard(0, true), -2);
        ProphetLiable x = small();
        String before = Check.portrait(x);
        for (int fact : STRANGE) {
            if (fact != NONE) {
                due("heard(" + fact + ", true)", x.heard(fact, true), -2);
            }
        }
        due("heard(2, true)", x.heard(2, true), -2);
        Check.due("nothing is HEARD", Check.portrait(x), before);
        due("heard(1, true)", x.heard(1, true), 2);
    }

    /** "or if there are 8". */
    static void promise30OtherIfThereAre8() {
        ProphetLiable x = Check.quiet(2);
        x.prophet(0, 0);
        x.foretell(0, true, 1, 9, 0);
        for (int i = 1; i <= 8; i++) {
            x.heard(0, true);
        }
        due("the ninth", x.heard(1, true), -2);
        due("about(6)", x.about(6), 8);
        due("worlds(0, 0)", x.worlds(0, 0), 2);
    }

    /** "NONE for others". */
    static void promise31NoneForOthers() {
        due("worlds(0, 0) of none", new ProphetLiable().worlds(0, 0), NONE);
        ProphetLiable x = small();
        for (int other : STRANGE) {
            due("worlds(" + other + ", 0)", x.worlds(other, 0), NONE);
            due("worlds(" + other + ", 1)", x.worlds(other, 1), NONE);
            due("worlds(0, " + other + ")", x.worlds(0, other), NONE);
        }
        due("worlds(3, 0)", x.worlds(3, 0), NONE);
        due("worlds(0, 2)", x.worlds(0, 2), NONE);
        due("worlds(0, 1)", x.worlds(0, 1), 1);
    }

    /** "NONE: none, and for others". */
    static void promise32NoneForOthers() {
        due("tells(0) of none", new ProphetLiable().tells(0), NONE);
        ProphetLiable x = small();
        for (int other : STRANGE) {
            due("tells(" + other + ")", x.tells(other), NONE);
        }
        due("tells(3)", x.tells(3), NONE);
        due("tells(0)", x.tells(0), 1);
    }

    /** "-2 if no WORD is on offer": for both who begin and both that are asked. */
    static void promise33OtherIfNoWordIsOnOffer() {
        ProphetLiable x = Check.quiet(1);
        for (int i = 0; i < 4; i++) {
            due("duel", x.duel((i & 1) == 0, (i & 2) == 0), -2);
        }
        x.offer(true, 1, 1, 1);
        for (int i = 0; i < 4; i++) {
            due("duel", x.duel((i & 1) == 0, (i & 2) == 0), (i & 2) == 0 ? 0 : 1 - (i & 1));
        }
    }

    /** "the FACT (first true; NONE)": none, where whoever begins can't get it. */
    static void promise33NoneIfItCantGetIt() {
        ProphetLiable x = Check.quiet(2);
        x.offer(true, 3, 1, 1);
        due("duel(true, true)", x.duel(true, true), NONE);
        due("duel(true, false)", x.duel(true, false), 0);
        x.offer(true, 1, NONE, 1);
        x.offer(false, 3, 1, 1);
        due("duel(false, true)", x.duel(false, true), NONE);
        due("duel(false, false)", x.duel(false, false), 1);
    }

    /** "NONE for others". */
    static void promise34NoneForOthers() {
        ProphetLiable x = small();
        for (int i = 0; i < 2; i++) {
            boolean low = i == 1;
            for (int facts : new int[] {0, 4, 5, 256, -1, LOW, HIGH}) {
                due("fair of " + facts, x.fair(true, facts, 1, 1, low), NONE);
                due("fair of any of " + facts, x.fair(false, facts, 1, 1, low), NONE);
            }
            for (int days : new int[] {0, -1, 5, LOW, HIGH}) {
                due("fair in " + days, x.fair(true, 1, days, 1, low), NONE);
            }
            for (int dues : new int[] {-1, 1000, LOW, HIGH}) {
                due("fair for " + dues, x.fair(true, 1, 1, dues, low), NONE);
            }
            due("fair of none told", new ProphetLiable().fair(true, 1, 1, 1, low), NONE);
        }
        due("the upper", x.fair(true, 2, 4, 999, false), 999);
        due("the lower", x.fair(true, 2, 4, 999, true), 1);
    }

    /** "(prophecy NONE: none any more)": also if there are 8, or none. */
    static void promise35NoneAnyMore() {
        ProphetLiable x = Check.quiet(1);
        due("owed(NONE, 0) of none", x.owed(NONE, 0), 0);
        x.prophet(0, 0);
        x.foretell(0, true, 1, 9, 0);
        Check.read(x, "dues 5;");
        for (int i = 1; i <= 8; i++) {
            due("owed", x.owed(0, 6), i);
        }
        due("whose()", x.whose(), 0);
        due("owed(NONE, 0)", x.owed(NONE, 0), 0);
        due("about(7)", x.about(7), 0);
        due("whose()", x.whose(), 1);
        due("owed(0, 5)", x.owed(0, 5), 1);
    }

    /** "-2 for others": nothing is OWED. */
    static void promise35OtherForOthers() {
        due("owed(0, 1) of none", new ProphetLiable().owed(0, 1), -2);
        ProphetLiable x = small();
        String before = Check.portrait(x);
        for (int prophecy : STRANGE) {
            if (prophecy != NONE) {
                due("owed(" + prophecy + ", 1)", x.owed(prophecy, 1), -2);
            }
        }
        due("owed(3, 1)", x.owed(3, 1), -2);
        for (int dues : new int[] {-1, 10000, LOW, HIGH}) {
            due("owed(0, " + dues + ")", x.owed(0, dues), -2);
        }
        Check.due("nothing is OWED", Check.portrait(x), before);
        due("owed(2, 30): it failed, but is told", x.owed(2, 30), 2);
    }

    /** "or if there are 8". */
    static void promise35OtherIfThereAre8() {
        ProphetLiable x = Check.quiet(1);
        x.prophet(0, 0);
        x.foretell(0, true, 1, 9, 0);
        Check.read(x, "dues 5;");
        for (int i = 1; i <= 8; i++) {
            x.owed(0, 5);
        }
        due("the ninth", x.owed(0, 6), -2);
        due("about(7)", x.about(7), 8);
        due("whose(): it doesn't count", x.whose(), 1);
    }

    /** "WHOSE LAW (bits)": of four TEXTS at most. */
    static void promise36OfFourTexts() {
        ProphetLiable x = Check.quiet(1);
        x.prophet(0, 0);
        x.foretell(0, true, 1, 9, 0);
        due("whose() without TEXTS", x.whose(), 0);
        for (int i = 0; i < 4; i++) {
            Check.read(x, "dues " + i + ";");
        }
        due("whose(): nothing is OWED", x.whose(), 15);
        for (int i = 0; i < 4; i++) {
            x.owed(NONE, 0);
            x.owed(0, i);
            due("whose() of " + i, x.whose(), 1 << i);
        }
    }

    // ---- promises 37 to 44

    /** "MOST FAMOUS. NONE: none": be there FACTS, or PROPHETS that went by back(). */
    static void promise37NoneIfNoneIsTold() {
        ProphetLiable x = new ProphetLiable();
        x.fact(1, 1);
        due("famous()", x.famous(), NONE);
        x = small();
        due("famous()", x.famous(), 1);
        x.back();
        due("famous(): none any more", x.famous(), NONE);
    }

    /** "RICHEST. NONE: none": be there FACTS, or PROPHETS that went by back(). */
    static void promise38NoneIfNoneIsTold() {
        ProphetLiable x = new ProphetLiable();
        x.fact(1, 1);
        due("richest()", x.richest(), NONE);
        x = small();
        due("richest()", x.richest(), 1);
        x.back();
        due("richest(): none any more", x.richest(), NONE);
    }

    /** "RUINED (bits)": taken back with the DAY by which it was. */
    static void promise39NotAnyMoreIfTakenBack() {
        ProphetLiable x = small();
        due("ruined()", x.ruined(), 4);
        x.undo();
        due("ruined()", x.ruined(), 0);
        x.day(1);
        due("ruined()", x.ruined(), 4);
    }

    /** "IDLE (bits)": with one that is sold it is the other one's. */
    static void promise40WithOneSold() {
        ProphetLiable x = small();
        due("idle()", x.idle(), 6);
        x.sell(0, 1, 0);
        due("idle()", x.idle(), 5);
    }

    /** "-2 for others". */
    static void promise41OtherForOthers() {
        ProphetLiable x = small();
        for (int what : STRANGE) {
            due("ledger(" + what + ")", x.ledger(what), -2);
        }
        due("ledger(3)", x.ledger(3), -2);
        due("ledger(2)", x.ledger(2), 0);
        due("ledger(-1) of a new one", new ProphetLiable().ledger(-1), -2);
    }

    /** "BY THE BOOK: how much together": of the latest 30 alone, be it much. */
    static void promise41OfTheLatest30() {
        ProphetLiable x = Check.quiet(1);
        x.prophet(9999, 0);
        x.prophet(9999, 0);
        x.foretell(0, true, 1, 99, 0);
        for (int i = 0; i < 30; i++) {
            x.sell(0, 1 - i % 2, i == 0 ? 7 : 999);
        }
        due("ledger(2)", x.ledger(2), 29 * 999 + 7);
        x.sell(0, 1, 1);
        due("ledger(2): the eldest went", x.ledger(2), 29 * 999 + 1);
    }

    /** "THE IMAGE is as all is now: DAY": the last one counts. */
    static void promise42TheLastOneCounts() {
        ProphetLiable x = new ProphetLiable();
        due("image() of a new one", x.image(), 0);
        x.day(3);
        due("image()", x.image(), 3);
        x.fact(1, 1);
        x.day(4);
        due("image()", x.image(), 7);
        x.day(1);
        due("back()", x.back(), 7);
        due("about(0)", x.about(0), 1);
        Check.pass(x, 9992);
        due("image()", x.image(), 9999);
    }

    /** "THE IMAGE is as all is now": nothing else is changed, and what comes later isn't in it. */
    static void promise42NothingIsChanged() {
        ProphetLiable x = small();
        String before = Check.portrait(x);
        x.image();
        Check.due("the market", Check.portrait(x), before);
        x.day(1);
        x.undo();
        x.end(20);
        Check.due("the market", Check.portrait(x), before);
    }

    /** "BACK to THE IMAGE (it stays): DAY": again and again. */
    static void promise43ItStays() {
        ProphetLiable x = small();
        x.image();
        String before = Check.world(x);
        for (int i = 0; i < 3; i++) {
            x.day(20);
            x.years(i, 20);
            x.undo();
            x.undo();
            due("back()", x.back(), 2);
            Check.due("the world", Check.world(x), before);
        }
        due("back() at once", x.back(), 2);
        due("undo(): of the six STEPS of then", x.undo(), 5);
    }

    /** "BACK": more STEPS than can be kept, taken back to those of THE IMAGE. */
    static void promise43WithAllStepsKept() {
        ProphetLiable x = Check.facts(1, 1, 1);
        x.prophet(100, 0);
        x.day(37);
        x.image();
        x.day(45);
        x.bring(0, 0);
        due("back()", x.back(), 37);
        due("about(4)", x.about(4), 30);
        ProphetLiable y = Check.facts(1, 1, 1);
        y.prophet(100, 0);
        y.day(37);
        for (int left = 29; left >= 0; left--) {
            due("undo()", x.undo(), left);
            y.undo();
            due("is(0)", x.is(0), y.is(0));
            due("is(1)", x.is(1), y.is(1));
            due("is(2)", x.is(2), y.is(2));
        }
        due("undo()", x.undo(), NONE);
    }

    /** "-2 for others". */
    static void promise44OtherForOthers() {
        ProphetLiable x = small();
        for (int what : STRANGE) {
            due("about(" + what + ")", x.about(what), -2);
        }
        due("about(9)", x.about(9), -2);
        due("about(8)", x.about(8), 20);
    }

    /** "0 FACTS, 1 PROPHETS, 2 TEXTS, 3 THE TEXT (NONE), ..": when all is full. */
    static void promise44WhenAllIsFull() {
        ProphetLiable x = Check.quiet(8);
        for (int i = 0; i < 5; i++) {
            x.prophet(i, 0);
        }
        for (int i = 0; i < 4; i++) {
            x.text();
        }
        due("about(3)", x.about(3), NONE);
        x.by(3);
        x.foretell(0, true, 1, 99, 0);
        x.day(60);
        for (int i = 0; i < 8; i++) {
            x.offer(true, 1, 1, 1);
            x.heard(i, true);
            x.owed(0, 0);
        }
        for (int i = 0; i < 15; i++) {
            x.feed(0, 0, 0, 0, 0);
        }
        int[] want = {8, 5, 4, 3, 30, 8, 8, 8, 300};
        for (int what = 0; what <= 8; what++) {
            due("about(" + what + ")", x.about(what), want[what]);
        }
    }

    /** "NONE = -1". */
    static void promise44TheConstantNone() {
        due("NONE", ProphetLiable.NONE, -1);
    }
}
