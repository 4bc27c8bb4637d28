/** The boundary cases that parts III, IV and V of the document name, each sentence in a test of its own. */
public final class QuestionBoundaryTest {
    private static final int NONE = Check.NONE;

    public static void main(String[] args) {
        Check.main(QuestionBoundaryTest.class);
    }

    private static void due(String call, long got, long want) {
        Check.due(call, got, want);
    }

    private static void due(String call, boolean got, boolean want) {
        Check.due(call, got, want);
    }

    // ---- part III

    /** "All that follows changes nothing". */
    static void partIIIChangesNothing() {
        ProphetLiable x = Check.facts(2, 5, 0);
        x.prophet(90, 5);
        x.prophet(3, 5);
        x.foretell(0, true, 3, 4, 2);
        x.foretell(1, false, 4, 1, 2);
        Check.rule(x, "dues 30 + due;comes odds + many;");
        x.offer(true, 3, 5, 6);
        x.heard(0, true);
        x.owed(0, 34);
        x.day(1);
        String before = Check.portrait(x);
        x.ahead(60, 0, 0);
        x.ahead(60, 1, 0);
        x.ahead(60, 2, 1);
        x.until(1);
        x.odds(true, 7, 4, false);
        x.least(3, true);
        x.stop(3);
        x.purse(100, true);
        x.worst(1);
        x.worlds(0, 1);
        x.tells(0);
        x.duel(true, true);
        x.fair(true, 7, 4, 999, true);
        x.whose();
        x.famous();
        x.richest();
        x.ruined();
        x.idle();
        x.ledger(1);
        Check.due("the market", Check.portrait(x), before);
    }

    /** "AHEAD behind n DAYS (1 .. 60 ..)". */
    static void partIIIAheadOf1To60Days() {
        ProphetLiable x = Check.quiet(1);
        x.prophet(5, 0);
        x.foretell(0, true, 1, 59, 0);
        due("ahead(0, 2, 0)", x.ahead(0, 2, 0), NONE);
        due("ahead(-1, 2, 0)", x.ahead(-1, 2, 0), NONE);
        due("ahead(61, 2, 0)", x.ahead(61, 2, 0), NONE);
        due("ahead(1, 2, 0)", x.ahead(1, 2, 0), 0);
        due("ahead(59, 2, 0)", x.ahead(59, 2, 0), 0);
        due("ahead(60, 2, 0)", x.ahead(60, 2, 0), 2);
    }

    /** "those that can pass": from near 9999 on fewer, at 9999 none. */
    static void partIIIAheadThoseThatCanPass() {
        ProphetLiable x = Check.quiet(1);
        x.prophet(5, 0);
        Check.pass(x, 9997);
        x.foretell(0, true, 1, 1, 1);
        x.foretell(0, true, 1, 2, 1);
        due("ahead(1, 2, 0)", x.ahead(1, 2, 0), 0);
        due("ahead(2, 2, 0)", x.ahead(2, 2, 0), 2);
        due("ahead(60, 2, 0)", x.ahead(60, 2, 0), 2);
        due("ahead(60, 2, 1): DAY 9999 doesn't pass", x.ahead(60, 2, 1), 0);
        due("ahead(60, 1, 0)", x.ahead(60, 1, 0), 0);
        x.day(2);
        due("ahead(60, 2, 1) at 9999", x.ahead(60, 2, 1), 0);
        due("ahead(1, 1, 0) at 9999", x.ahead(1, 1, 0), x.of(0, 0));
        due("ahead(1, 0, 0) at 9999", x.ahead(1, 0, 0), 0);
    }

    /** "AHEAD ..: FACTS that are SO; PURSE of a PROPHET; how a PROPHECY is": as the DAYS bring it then. */
    static void partIIIAheadIsWhatComes() {
        for (int n = 1; n <= 60; n += 59) {
            ProphetLiable x = Check.facts(1, 0, 2);
            x.prophet(50, 0);
            x.prophet(7, 0);
            x.foretell(0, true, 2, 1, 3);
            x.foretell(1, false, 5, 50, 3);
            Check.rule(x, "comes odds - fact;dues 20 + day;");
            int facts = x.ahead(n, 0, 0);
            int purse = x.ahead(n, 1, 0);
            int other = x.ahead(n, 1, 1);
            int how = x.ahead(n, 2, 0);
            int second = x.ahead(n, 2, 1);
            x.day(n);
            due("FACTS", facts, x.is(2));
            due("PURSE of 0", purse, x.of(0, 0));
            due("PURSE of 1", other, x.of(1, 0));
            due("how 0 is", how, x.word(0, 5));
            due("how 1 is", second, x.word(1, 5));
        }
    }

    /** "ENDS: in how many DAYS (1 .. 60) an open PROPHECY ends". */
    static void partIIIEndsIn1To60Days() {
        ProphetLiable x = Check.facts(0, 10);
        x.prophet(5, 0);
        x.foretell(0, true, 1, 1, 0);
        x.foretell(0, true, 1, 59, 0);
        x.foretell(0, true, 1, 60, 0);
        x.foretell(0, true, 2, 99, 0);
        due("until(0)", x.until(0), 2);
        due("until(1)", x.until(1), 60);
        due("until(2): not in 60", x.until(2), NONE);
        due("until(3): it comes true", x.until(3), 1);
        x.day(1);
        due("until(0): on the DAY it is due", x.until(0), 1);
        due("until(2)", x.until(2), 60);
    }

    /** "ENDS: .. none": no DAY comes on which it would. */
    static void partIIIEndsNoneBehindTheLastDay() {
        ProphetLiable x = Check.quiet(1);
        x.prophet(5, 0);
        Check.pass(x, 9997);
        x.foretell(0, true, 1, 1, 0);
        x.foretell(0, true, 1, 2, 0);
        due("until(0): on 9998", x.until(0), 2);
        due("until(1): on 9999", x.until(1), NONE);
        x.day(2);
        due("until(1) at 9999", x.until(1), NONE);
    }

    /** "OWES: dues of all open PROPHECIES of a PROPHET together (each as now)". */
    static void partIIIOwesOfOpenOnesTogether() {
        ProphetLiable x = Check.quiet(1);
        x.prophet(100, 0);
        x.prophet(100, 0);
        due("of(0, 4): none", x.of(0, 4), 0);
        x.foretell(0, true, 1, 1, 1);
        x.foretell(0, true, 1, 9, 2);
        x.foretell(1, true, 1, 9, 4);
        due("of(0, 4)", x.of(0, 4), 30);
        due("of(1, 4)", x.of(1, 4), 40);
        x.day(2);
        due("of(0, 4): one is not open", x.of(0, 4), 20);
        for (int i = 3; i < 12; i++) {
            x.foretell(1, true, 1, 9, 0);
        }
        x.sell(1, 1, 0);
        Check.rule(x, "dues 9999;");
        due("of(1, 4): more than a PURSE", x.of(1, 4), 11 * 9999);
        due("of(0, 4)", x.of(0, 4), 0);
    }

    private static void odds(ProphetLiable x, boolean all, int facts, int days, long upper, long lower) {
        String call = "odds(" + all + ", " + facts + ", " + days + ", ";
        due(call + "false)", x.odds(all, facts, days, false), upper);
        due(call + "true)", x.odds(all, facts, days, true), lower);
    }

    /** "ODDS that any (or all) of some FACTS (one at least; bits)". */
    static void partIIIOddsOfOneFactAtLeast() {
        ProphetLiable x = Check.facts(1, 2, 3);
        odds(x, true, 0, 1, NONE, NONE);
        odds(x, false, 0, 1, NONE, NONE);
        odds(x, true, 4, 1, 3, 10);
        odds(x, false, 4, 1, 3, 10);
        odds(x, true, 8, 1, NONE, NONE);
        odds(x, true, 12, 1, NONE, NONE);
        odds(x, true, -1, 1, NONE, NONE);
        odds(x, true, Check.LOW, 1, NONE, NONE);
    }

    /** "behind d DAYS (1 .. 4)". */
    static void partIIIOddsBehind1To4Days() {
        ProphetLiable x = Check.facts(1);
        odds(x, true, 1, 0, NONE, NONE);
        odds(x, true, 1, -1, NONE, NONE);
        odds(x, true, 1, 1, 1, 10);
        odds(x, true, 1, 2, 19, 100);
        odds(x, true, 1, 3, 271, 1000);
        odds(x, true, 1, 4, 3439, 10000);
        odds(x, true, 1, 5, NONE, NONE);
    }

    /** "were it by ODDS told alone": whatever THE TEXT says. */
    static void partIIIOddsByThoseToldAlone() {
        ProphetLiable x = Check.facts(3);
        Check.rule(x, "comes 10;");
        odds(x, true, 1, 1, 3, 10);
    }

    /** "those SO now being so": SO at once, and for good. */
    static void partIIIOddsThoseSoNowBeingSo() {
        ProphetLiable x = Check.facts(0, 3);
        x.prophet(50, 0);
        x.bring(0, 0);
        odds(x, true, 1, 4, 1, 1);
        odds(x, false, 1, 1, 1, 1);
        odds(x, false, 3, 1, 1, 1);
        odds(x, true, 3, 1, 3, 10);
    }

    /** "in lowest terms": 0 by 1 and 1 by 1, too. */
    static void partIIIOddsInLowestTerms() {
        ProphetLiable x = Check.facts(0, 10, 5, 4);
        odds(x, true, 1, 4, 0, 1);
        odds(x, false, 1, 1, 0, 1);
        odds(x, true, 2, 1, 1, 1);
        odds(x, false, 2, 4, 1, 1);
        odds(x, true, 3, 4, 0, 1);
        odds(x, false, 3, 4, 1, 1);
        odds(x, true, 4, 1, 1, 2);
        odds(x, true, 4, 4, 15, 16);
        odds(x, true, 12, 1, 1, 5);
        odds(x, false, 12, 1, 7, 10);
    }

    /** "3 FACTS that aren't SO at most": of those that are, any number. */
    static void partIIIOddsOf3FactsThatArentSoAtMost() {
        ProphetLiable x = Check.facts(1, 3, 7, 1, 9, 9, 9, 9);
        x.prophet(99, 0);
        odds(x, true, 7, 4, 3439L * 7599 * 9919, 1000000000000L);
        odds(x, false, 7, 4, 1000000000000L - 6561L * 2401 * 81, 1000000000000L);
        odds(x, true, 15, 1, NONE, NONE);
        odds(x, false, 15, 1, NONE, NONE);
        odds(x, false, 255, 1, NONE, NONE);
        for (int i = 3; i < 8; i++) {
            x.bring(0, i);
        }
        odds(x, true, 255, 1, 21, 1000);
        odds(x, false, 255, 1, 1, 1);
        x.spoil(0, 7);
        odds(x, true, 255, 1, NONE, NONE);
        odds(x, false, 255, 1, NONE, NONE);
    }

    /** A market with FACTS of these COSTS, and a PROPHET. */
    private static ProphetLiable costs(int... costs) {
        ProphetLiable x = new ProphetLiable();
        for (int cost : costs) {
            x.fact(0, cost);
        }
        x.prophet(999, 0);
        return x;
    }

    private static void least(ProphetLiable x, int prophecies, int facts, int cost) {
        due("least(" + prophecies + ", false)", x.least(prophecies, false), facts);
        due("least(" + prophecies + ", true)", x.least(prophecies, true), cost);
    }

    /** "LEAST ACTS .. : least COST together": though it be more FACTS, or higher ones. */
    static void partIIILeastCost() {
        ProphetLiable x = costs(1, 1, 1, 4, 99);
        x.foretell(0, false, 9, 9, 0);
        x.foretell(0, false, 10, 9, 0);
        x.foretell(0, false, 12, 9, 0);
        least(x, 7, 7, 3);
        x.foretell(0, false, 24, 9, 0);
        least(x, 8, 8, 4);
        least(x, 15, 8, 4);
        x.foretell(0, true, 31, 9, 0);
        least(x, 31, 31, 106);
    }

    /** "of like ones the fewest". */
    static void partIIILeastTheFewest() {
        ProphetLiable x = costs(3, 3, 6);
        x.foretell(0, false, 5, 9, 0);
        x.foretell(0, false, 6, 9, 0);
        least(x, 3, 4, 6);
        x = costs(0, 0, 0);
        x.foretell(0, false, 3, 9, 0);
        x.foretell(0, false, 6, 9, 0);
        least(x, 3, 2, 0);
    }

    /** "then the lowest set". */
    static void partIIILeastTheLowestSet() {
        ProphetLiable x = costs(5, 5, 5, 5);
        x.foretell(0, false, 15, 9, 0);
        least(x, 1, 1, 5);
        x.foretell(0, false, 14, 9, 0);
        least(x, 2, 2, 5);
        least(x, 3, 2, 5);
        x.foretell(0, false, 9, 9, 0);
        x.foretell(0, false, 6, 9, 0);
        least(x, 12, 3, 10);
    }

    /** "FACTS not SO (bits), by which brought about each of these is SO": none, where each is SO already. */
    static void partIIILeastOfWhatIsSo() {
        ProphetLiable x = costs(5, 6, 7);
        x.foretell(0, true, 3, 9, 0);
        x.foretell(0, false, 5, 9, 0);
        x.bring(0, 0);
        least(x, 2, 0, 0);
        least(x, 1, 2, 6);
        least(x, 3, 2, 6);
        x.bring(0, 1);
        least(x, 3, 0, 0);
    }

    /** "LEAST ACTS for open PROPHECIES (bits)": all twelve, and eight FACTS. */
    static void partIIILeastOfAllThatCanBe() {
        ProphetLiable x = costs(99, 99, 99, 99, 99, 99, 99, 99);
        for (int i = 0; i < 12; i++) {
            x.foretell(0, true, i == 11 ? 255 : 1 << i % 8, 9, 0);
        }
        least(x, 4095, 255, 792);
        least(x, 2048, 255, 792);
        least(x, 2047, 255, 792);
        least(x, 128, 128, 99);
        least(x, 4096, NONE, NONE);
        least(x, 8191, NONE, NONE);
    }

    /** "TO STOP: the fewest FACTS (bits)". */
    static void partIIIStopTheFewest() {
        ProphetLiable x = Check.quiet(5);
        x.prophet(0, 0);
        x.foretell(0, true, 0b01001, 9, 0);
        x.foretell(0, true, 0b01010, 9, 0);
        x.foretell(0, true, 0b01100, 9, 0);
        x.foretell(0, false, 0b10001, 9, 0);
        due("stop(7): one for all three", x.stop(7), 8);
        due("stop(8): all of any", x.stop(8), 17);
        due("stop(15)", x.stop(15), 25);
        due("stop(9)", x.stop(9), 17);
    }

    /** "TO STOP .. SO or not": it is the same, whatever is SO now. */
    static void partIIIStopSoOrNot() {
        ProphetLiable x = Check.quiet(3);
        x.prophet(0, 0);
        x.foretell(0, true, 6, 9, 0);
        x.foretell(0, false, 5, 9, 0);
        due("stop(1)", x.stop(1), 2);
        due("stop(2)", x.stop(2), 5);
        x.bring(0, 2);
        due("stop(1)", x.stop(1), 2);
        due("stop(2)", x.stop(2), 5);
        x.bring(0, 1);
        due("stop(1)", x.stop(1), 2);
    }

    /** "of like ones the lowest set". */
    static void partIIIStopTheLowestSet() {
        ProphetLiable x = Check.quiet(8);
        x.prophet(0, 0);
        x.foretell(0, true, 0b11000000, 9, 0);
        x.foretell(0, true, 0b00110000, 9, 0);
        x.foretell(0, true, 0b11111111, 9, 0);
        due("stop(1)", x.stop(1), 64);
        due("stop(2)", x.stop(2), 16);
        due("stop(3)", x.stop(3), 80);
        due("stop(4)", x.stop(4), 1);
        due("stop(7)", x.stop(7), 80);
        x.foretell(0, false, 0b11111111, 9, 0);
        due("stop(8)", x.stop(8), 255);
        due("stop(15)", x.stop(15), 255);
    }

    /** "WORDS on offer (8 at most ..)". */
    static void partIIIWords8AtMost() {
        ProphetLiable x = Check.quiet(1);
        for (int i = 1; i <= 8; i++) {
            due("offer", x.offer(true, 1, 1, i), i);
        }
        due("the ninth", x.offer(true, 1, 1, 1), -2);
        due("about(5)", x.about(5), 8);
        due("worst(255)", x.worst(255), 36);
        due("worst(256)", x.worst(256), NONE);
        x.offer(true, 1, NONE, 1);
        due("the first again", x.offer(true, 1, 1, 1), 1);
    }

    /** "any or all of some FACTS": at least one, all told. */
    static void partIIIWordsOfToldFacts() {
        ProphetLiable x = Check.quiet(2);
        due("of none", x.offer(true, 0, 1, 1), -2);
        due("of one not told", x.offer(true, 4, 1, 1), -2);
        due("of one not told, too", x.offer(false, 5, 1, 1), -2);
        due("of LOW", x.offer(false, Check.LOW, 1, 1), -2);
        due("of all", x.offer(false, 3, 1, 1), 1);
        due("about(5)", x.about(5), 1);
    }

    /** "FEE 0 .. 999, dues 0 .. 999". */
    static void partIIIWordsFeeAndDues0To999() {
        ProphetLiable x = Check.quiet(1);
        due("FEE -2", x.offer(true, 1, -2, 5), -2);
        due("FEE 1000", x.offer(true, 1, 1000, 5), -2);
        due("dues -1", x.offer(true, 1, 5, -1), -2);
        due("dues 1000", x.offer(true, 1, 5, 1000), -2);
        due("about(5)", x.about(5), 0);
        due("FEE 0", x.offer(true, 1, 0, 5), 1);
        due("FEE 999", x.offer(true, 1, 999, 5), 2);
        due("dues 0", x.offer(true, 1, 5, 0), 3);
        due("dues 999", x.offer(true, 1, 5, 999), 4);
        due("FEES together", x.purse(9999, true), 1009);
        due("WORST", x.worst(15), 1009);
    }

    /** "WORST of a set of them: of all worlds (each FACT SO or not)": not of what is SO now; of none 0. */
    static void partIIIWorstOfAllWorlds() {
        ProphetLiable x = Check.quiet(2);
        x.prophet(0, 0);
        due("worst(0) of none on offer", x.worst(0), 0);
        x.offer(true, 1, 0, 30);
        x.offer(false, 3, 0, 200);
        x.offer(true, 3, 0, 1);
        x.bring(0, 0);
        x.bring(0, 1);
        due("worst(0)", x.worst(0), 0);
        due("worst(1)", x.worst(1), 30);
        due("worst(6)", x.worst(6), 201);
        due("worst(7)", x.worst(7), 231);
    }

    /** "WITHIN A PURSE (0 .. 9999)". */
    static void partIIIPurse0To9999() {
        ProphetLiable x = Check.quiet(1);
        x.offer(true, 1, 5, 5);
        due("purse(-1, false)", x.purse(-1, false), NONE);
        due("purse(-1, true)", x.purse(-1, true), NONE);
        due("purse(10000, false)", x.purse(10000, false), NONE);
        due("purse(10000, true)", x.purse(10000, true), NONE);
        due("purse(0, false)", x.purse(0, false), 1);
        due("purse(9999, false)", x.purse(9999, false), 1);
    }

    /** "whose WORST is no more than the PURSE and its FEES together". */
    static void partIIIPurseNoMoreThanPurseAndFees() {
        ProphetLiable x = Check.quiet(1);
        x.offer(true, 1, 40, 100);
        due("purse(59, false)", x.purse(59, false), 0);
        due("purse(59, true)", x.purse(59, true), 0);
        due("purse(60, false)", x.purse(60, false), 1);
        due("purse(60, true)", x.purse(60, true), 40);
        x.offer(true, 1, 1, 61);
        due("purse(119, false)", x.purse(119, false), 1);
        due("purse(120, false)", x.purse(120, false), 3);
    }

    /** "of most FEES": not of most WORDS. */
    static void partIIIPurseOfMostFees() {
        ProphetLiable x = Check.quiet(1);
        x.offer(true, 1, 10, 20);
        x.offer(true, 1, 10, 20);
        x.offer(true, 1, 21, 41);
        due("purse(20, false)", x.purse(20, false), 4);
        due("purse(20, true)", x.purse(20, true), 21);
        due("purse(19, false)", x.purse(19, false), 1);
    }

    /** "of like ones the lowest set": none at all, where nothing is gained. */
    static void partIIIPurseTheLowestSet() {
        ProphetLiable x = Check.quiet(1);
        x.offer(true, 1, 0, 0);
        due("purse(9999, false)", x.purse(9999, false), 0);
        x.offer(true, 1, 5, 9);
        x.offer(true, 1, 5, 9);
        x.offer(true, 1, 10, 14);
        due("purse(4, false)", x.purse(4, false), 8);
        due("purse(7, false)", x.purse(7, false), 8);
        due("purse(8, false): 2 and 4 as well as 8 and 2", x.purse(8, false), 10);
        x.offer(true, 1, NONE, 1);
        x.offer(true, 1, 5, 9);
        x.offer(true, 1, 5, 9);
        x.offer(true, 1, 10, 18);
        due("purse(4, false)", x.purse(4, false), 1);
        due("purse(8, false): 1 and 2 as well as 4", x.purse(8, false), 3);
    }

    // ---- part IV

    /** "HEARD (8 at most ..)": also of one FACT again. */
    static void partIVHeard8AtMost() {
        ProphetLiable x = Check.quiet(1);
        for (int i = 1; i <= 8; i++) {
            due("heard", x.heard(0, true), i);
        }
        due("the ninth", x.heard(0, true), -2);
        due("about(6)", x.about(6), 8);
        x.heard(NONE, true);
        due("the first again", x.heard(0, true), 1);
    }

    /** "WORLDS: FACTS SO or not, by which all HEARD .. is so: how many": from 2 to the 8th on down to 1 and 0. */
    static void partIVWorldsDownToNone() {
        ProphetLiable x = Check.quiet(8);
        x.prophet(0, 0);
        x.foretell(0, false, 255, 9, 0);
        x.foretell(0, true, 255, 9, 0);
        int left = 256;
        due("worlds(0, 0)", x.worlds(0, 0), left);
        due("worlds(0, 1)", x.worlds(0, 1), 255);
        due("worlds(1, 1)", x.worlds(1, 1), 1);
        for (int i = 0; i < 7; i++) {
            x.heard(i, true);
            left /= 2;
            due("worlds(0, 0)", x.worlds(0, 0), left);
            due("worlds(0, 1)", x.worlds(0, 1), left);
            due("worlds(1, 1)", x.worlds(1, 1), 1);
        }
        x.heard(0, false);
        due("worlds(0, 0): none", x.worlds(0, 0), 0);
        due("worlds(0, 1)", x.worlds(0, 1), 0);
        due("worlds(1, 1)", x.worlds(1, 1), 0);
        x.heard(NONE, true);
        for (int i = 0; i < 8; i++) {
            x.heard(i, false);
        }
        due("worlds(0, 0): one", x.worlds(0, 0), 1);
        due("worlds(0, 1)", x.worlds(0, 1), 0);
        due("worlds(1, 1)", x.worlds(1, 1), 0);
    }

    /** "in how many a PROPHECY is SO": all of its FACTS, or any, being HEARD to be SO or not. */
    static void partIVWorldsInWhichItIsSo() {
        ProphetLiable x = Check.quiet(4);
        x.prophet(0, 0);
        x.foretell(0, false, 3, 9, 0);
        x.foretell(0, true, 3, 9, 0);
        due("worlds(0, 1)", x.worlds(0, 1), 12);
        due("worlds(1, 1)", x.worlds(1, 1), 4);
        x.heard(0, false);
        due("worlds(0, 1)", x.worlds(0, 1), 4);
        due("worlds(1, 1)", x.worlds(1, 1), 0);
        x.heard(1, false);
        due("worlds(0, 1)", x.worlds(0, 1), 0);
        x.heard(NONE, false);
        x.heard(1, true);
        due("worlds(0, 1)", x.worlds(0, 1), 8);
        due("worlds(1, 1)", x.worlds(1, 1), 4);
        x.heard(0, true);
        due("worlds(1, 1)", x.worlds(1, 1), 4);
    }

    /** WORLDS are those of what was HEARD: what is SO now, and whether it is open, doesn't matter. */
    static void partIVWorldsByWhatWasHeardAlone() {
        ProphetLiable x = Check.quiet(2);
        x.prophet(0, 0);
        x.foretell(0, true, 3, 1, 0);
        x.foretell(0, false, 3, 1, 0);
        x.bring(0, 0);
        x.day(2);
        due("word(0, 5)", x.word(0, 5), 2);
        due("word(1, 5)", x.word(1, 5), 1);
        due("worlds(0, 0)", x.worlds(0, 0), 4);
        due("worlds(0, 1)", x.worlds(0, 1), 1);
        due("worlds(1, 1)", x.worlds(1, 1), 3);
        due("tells(0)", x.tells(0), 0);
    }

    /** "WHAT WOULD TELL ..: the one for which the fewest WORLDS go wrong". */
    static void partIVTellsTheFewestWrong() {
        ProphetLiable x = Check.quiet(4);
        x.prophet(0, 0);
        x.foretell(0, true, 8, 9, 0);
        x.foretell(0, false, 10, 9, 0);
        x.foretell(0, true, 12, 9, 0);
        due("tells(0): none goes wrong by 3", x.tells(0), 3);
        // By 1 or 3 none and four go wrong, by 0 or 2 two and two.
        due("tells(1): all are like", x.tells(1), 0);
        x.heard(1, false);
        due("tells(1): it is as 3 is", x.tells(1), 3);
        x.heard(3, true);
        due("tells(2): it is as 2 is", x.tells(2), 2);
    }

    /** "of like ones the lowest": of those not HEARD of. */
    static void partIVTellsTheLowest() {
        ProphetLiable x = Check.quiet(8);
        x.prophet(0, 0);
        x.foretell(0, true, 255, 9, 0);
        for (int i = 0; i < 8; i++) {
            due("tells(0) with " + i + " HEARD of", x.tells(0), i);
            x.heard(i, true);
        }
        due("tells(0)", x.tells(0), NONE);
        x.heard(NONE, true);
        x.heard(0, false);
        due("tells(0): it can't be SO any more", x.tells(0), 1);
    }

    /** "of those in which it is SO, and of those in which it isn't, .. both together": none of both may be left out. */
    static void partIVTellsBothTogether() {
        ProphetLiable x = Check.quiet(4);
        x.prophet(0, 0);
        x.foretell(0, false, 3, 9, 0);
        x.foretell(0, true, 3, 9, 0);
        // By 0 none and four go wrong, by 2 or 3 two and two: all are like.
        due("tells(0)", x.tells(0), 0);
        due("tells(1)", x.tells(1), 0);
        x.heard(1, true);
        due("tells(0): it is SO by 1", x.tells(0), 0);
        due("tells(1): it is as 0 is", x.tells(1), 0);
        x.heard(NONE, true);
        x.heard(0, true);
        due("tells(1): it is as 1 is", x.tells(1), 1);
        due("tells(0): the lowest", x.tells(0), 1);
    }

    /** "none (all are HEARD of ..": be it of one FACT. */
    static void partIVTellsNoneIfAllAreHeardOf() {
        ProphetLiable x = Check.quiet(1);
        x.prophet(0, 0);
        x.foretell(0, true, 1, 9, 0);
        due("tells(0)", x.tells(0), 0);
        x.heard(0, false);
        due("tells(0)", x.tells(0), NONE);
        x.fact(0, 0);
        due("tells(0)", x.tells(0), 1);
    }

    /** ".. or there is no WORLD)": though there are FACTS not HEARD of. */
    static void partIVTellsNoneIfThereIsNoWorld() {
        ProphetLiable x = Check.quiet(3);
        x.prophet(0, 0);
        x.foretell(0, true, 1, 9, 0);
        x.heard(1, true);
        due("tells(0)", x.tells(0), 0);
        x.heard(1, false);
        due("tells(0)", x.tells(0), NONE);
        x.heard(NONE, true);
        x.heard(1, false);
        x.heard(1, true);
        due("tells(0) the other way round", x.tells(0), NONE);
    }

    private static void duel(ProphetLiable x, int made, int fact, int spoilt, int spoiler) {
        due("duel(true, false)", x.duel(true, false), made);
        due("duel(true, true)", x.duel(true, true), fact);
        due("duel(false, false)", x.duel(false, false), spoilt);
        due("duel(false, true)", x.duel(false, true), spoiler);
    }

    /** "A DUEL over all WORDS on offer": there is none without. */
    static void partIVDuelOverNoWord() {
        ProphetLiable x = Check.quiet(2);
        duel(x, -2, -2, -2, -2);
        x.offer(true, 1, 1, 1);
        duel(x, 1, 0, 0, 0);
        x.offer(true, 1, NONE, 1);
        duel(x, -2, -2, -2, -2);
    }

    /** "all their FACTS, none decided at first": one alone; those of no WORD aren't decided; SO now doesn't matter. */
    static void partIVDuelOfTheirFactsAlone() {
        ProphetLiable x = Check.quiet(4);
        x.prophet(0, 0);
        x.offer(true, 8, 1, 1);
        duel(x, 1, 3, 0, 3);
        x.bring(0, 3);
        duel(x, 1, 3, 0, 3);
        x.offer(true, 4, 1, 1);
        x.bring(0, 2);
        duel(x, 0, NONE, 0, 2);
    }

    /** "till all are decided": of eight by all of them each decides four. */
    static void partIVDuelTillAllAreDecided() {
        ProphetLiable x = Check.quiet(8);
        x.offer(false, 255, 1, 1);
        duel(x, 1, 0, 1, NONE);
        x.offer(true, 128, 1, 1);
        // Whoever begins has 7 at once.
        duel(x, 1, 7, 0, 7);
        x.offer(true, 1, NONE, 1);
        for (int i = 0; i < 8; i += 2) {
            x.offer(false, 3 << i, 1, 1);
        }
        duel(x, 1, 0, 1, NONE);
        x.offer(false, 6, 1, 1);
        // 0, 1, 2, 3 in a row: the spoiler by 1 is met by 0, then takes 2.
        duel(x, 1, 1, 0, 1);
    }

    /** "the lowest FACT by which whoever begins gets it as it wants; none". */
    static void partIVDuelTheLowestFact() {
        ProphetLiable x = Check.quiet(5);
        x.offer(true, 16, 1, 1);
        x.offer(false, 9, 1, 1);
        // The maker has to take 4 at once. If the spoiler takes 0, the maker needs 3 and 4, and gets one of them.
        duel(x, 1, 4, 0, 0);
        x.offer(true, 1, NONE, 1);
        x.offer(false, 24, 1, 1);
        duel(x, 1, 3, 1, NONE);
        x.offer(true, 2, 1, 1);
        x.offer(true, 4, 1, 1);
        duel(x, 0, NONE, 0, 1);
    }

    private static void fair(ProphetLiable x, boolean all, int facts, int days, int dues, long upper, long lower) {
        String call = "fair(" + all + ", " + facts + ", " + days + ", " + dues + ", ";
        due(call + "false)", x.fair(all, facts, days, dues, false), upper);
        due(call + "true)", x.fair(all, facts, days, dues, true), lower);
    }

    /** "A FAIR FEE: dues (0 .. 999)". */
    static void partIVFairDues0To999() {
        ProphetLiable x = Check.facts(3);
        fair(x, true, 1, 1, -1, NONE, NONE);
        fair(x, true, 1, 1, 1000, NONE, NONE);
        fair(x, true, 1, 1, 0, 0, 1);
        fair(x, true, 1, 1, 1, 7, 10);
        fair(x, true, 1, 1, 999, 6993, 10);
    }

    /** "as ODDS tells them": FACTS one at least, DAYS 1 .. 4, three that aren't SO at most. */
    static void partIVFairAsOddsTells() {
        ProphetLiable x = Check.facts(1, 3, 7, 0);
        x.prophet(50, 0);
        fair(x, true, 0, 1, 5, NONE, NONE);
        fair(x, true, 16, 1, 5, NONE, NONE);
        fair(x, true, -1, 1, 5, NONE, NONE);
        fair(x, true, 1, 0, 5, NONE, NONE);
        fair(x, true, 1, 5, 5, NONE, NONE);
        fair(x, true, 15, 1, 5, NONE, NONE);
        fair(x, false, 7, 4, 999, 6561L * 2401 * 81 * 999, 1000000000000L);
        x.bring(0, 3);
        fair(x, false, 15, 1, 5, 0, 1);
        fair(x, true, 15, 1, 999, 979 * 999, 1000);
    }

    /** "in lowest terms". */
    static void partIVFairInLowestTerms() {
        ProphetLiable x = Check.facts(5, 0, 10);
        fair(x, true, 1, 1, 2, 1, 1);
        fair(x, true, 1, 1, 3, 3, 2);
        fair(x, true, 1, 4, 8, 1, 2);
        fair(x, true, 2, 4, 7, 7, 1);
        fair(x, true, 4, 1, 7, 0, 1);
    }

    /** "OWED, 8 at most". */
    static void partIVOwed8AtMost() {
        ProphetLiable x = Check.quiet(1);
        x.prophet(0, 0);
        x.foretell(0, true, 1, 9, 0);
        for (int i = 1; i <= 8; i++) {
            due("owed", x.owed(0, 5), i);
        }
        due("the ninth", x.owed(0, 5), -2);
        due("about(7)", x.about(7), 8);
        x.owed(NONE, 0);
        due("the first again", x.owed(0, 5), 1);
    }

    /** "a PROPHECY, dues 0 .. 9999". */
    static void partIVOwedDues0To9999() {
        ProphetLiable x = Check.quiet(1);
        x.prophet(0, 0);
        x.foretell(0, true, 1, 9, 0);
        Check.read(x, "dues 0;");
        Check.read(x, "dues 9999;");
        due("owed(0, -1)", x.owed(0, -1), -2);
        due("owed(0, 10000)", x.owed(0, 10000), -2);
        due("about(7)", x.about(7), 0);
        due("owed(0, 0)", x.owed(0, 0), 1);
        due("whose()", x.whose(), 1);
        x.owed(NONE, 0);
        due("owed(0, 9999)", x.owed(0, 9999), 1);
        due("whose()", x.whose(), 2);
    }

    /** "TEXTS (bits) by whose dues all are so": none, some, all; with nothing OWED all. */
    static void partIVWhoseNoneSomeAll() {
        ProphetLiable x = Check.quiet(1);
        x.prophet(0, 0);
        x.foretell(0, true, 1, 9, 2);
        x.owed(0, 20);
        due("whose() without TEXTS", x.whose(), 0);
        Check.read(x, "dues 20;");
        Check.read(x, "");
        Check.read(x, "dues fee * 10;");
        due("whose() of three", x.whose(), 7);
        Check.read(x, "dues 21;");
        due("whose()", x.whose(), 7);
        x.owed(0, 21);
        due("whose(): not both can be", x.whose(), 0);
        x.owed(NONE, 0);
        due("whose(): nothing is OWED", x.whose(), 15);
        x.owed(0, 21);
        due("whose()", x.whose(), 8);
    }

    /** "as now": of a PROPHECY that ended, too. */
    static void partIVWhoseAsNow() {
        ProphetLiable x = Check.quiet(1);
        x.prophet(0, 0);
        x.foretell(0, true, 1, 2, 0);
        Check.read(x, "dues 10 + due;");
        x.owed(0, 12);
        due("whose() on DAY 0", x.whose(), 1);
        x.day(1);
        due("whose() on DAY 1", x.whose(), 0);
        x.owed(NONE, 0);
        x.day(4);
        x.owed(0, 7);
        due("word(0, 5)", x.word(0, 5), 2);
        due("whose() on DAY 5", x.whose(), 1);
    }

    /** "those not there any more, by taking back, aside": and there again, when one is there again. */
    static void partIVWhoseThoseTakenBackAside() {
        ProphetLiable x = Check.quiet(1);
        x.prophet(0, 0);
        Check.read(x, "dues 5;");
        x.foretell(0, true, 1, 9, 0);
        x.foretell(0, true, 1, 9, 0);
        x.owed(0, 5);
        x.owed(1, 6);
        due("whose()", x.whose(), 0);
        x.undo();
        due("whose(): the second is aside", x.whose(), 1);
        due("about(7)", x.about(7), 2);
        x.foretell(0, true, 1, 9, 0);
        due("whose(): there is one of its number again", x.whose(), 0);
        x.undo();
        x.undo();
        due("whose(): both are aside", x.whose(), 1);
    }

    /** "MOST FAMOUS: of most FAME (0, too)". */
    static void partIVFamousOf0Too() {
        ProphetLiable x = new ProphetLiable();
        due("famous(): none is told", x.famous(), NONE);
        x.prophet(9, 0);
        due("famous()", x.famous(), 0);
    }

    /** "of like ones the lowest; none (none is told)". */
    static void partIVFamousTheLowest() {
        ProphetLiable x = new ProphetLiable();
        x.prophet(9, 3);
        x.prophet(9, 4);
        x.prophet(9, 4);
        x.prophet(9, 2);
        due("famous()", x.famous(), 1);
        x.prophet(0, 99);
        due("famous()", x.famous(), 4);
    }

    /** "RICHEST: of most PURSE, likewise": 0, too; none. */
    static void partIVRichestOf0Too() {
        ProphetLiable x = new ProphetLiable();
        due("richest(): none is told", x.richest(), NONE);
        x.prophet(0, 9);
        due("richest()", x.richest(), 0);
    }

    /** "RICHEST: .. likewise": of like ones the lowest. */
    static void partIVRichestTheLowest() {
        ProphetLiable x = new ProphetLiable();
        x.prophet(3, 9);
        x.prophet(4, 9);
        x.prophet(4, 9);
        x.prophet(2, 9);
        due("richest()", x.richest(), 1);
        x.prophet(9999, 0);
        due("richest()", x.richest(), 4);
    }

    /** "RUINED (bits)": none to all five. */
    static void partIVRuinedNoneToAll() {
        ProphetLiable x = Check.quiet(1);
        due("ruined() of nobody", x.ruined(), 0);
        for (int i = 0; i < 5; i++) {
            x.prophet(0, 0);
        }
        due("ruined()", x.ruined(), 0);
        for (int i = 4; i >= 0; i--) {
            x.foretell(i, true, 1, 1, 1);
            x.day(2);
            due("ruined()", x.ruined(), 31 & -1 << i);
        }
    }

    /** "IDLE: PROPHETS (bits) with no open PROPHECY": none to all five. */
    static void partIVIdleNoneToAll() {
        ProphetLiable x = Check.quiet(1);
        due("idle() of nobody", x.idle(), 0);
        for (int i = 0; i < 5; i++) {
            x.prophet(0, 0);
            due("idle()", x.idle(), (2 << i) - 1);
        }
        for (int i = 0; i < 5; i++) {
            x.foretell(i, true, 1, 1, 0);
            due("idle()", x.idle(), 31 & -2 << i);
        }
        x.day(1);
        due("idle()", x.idle(), 0);
        x.day(1);
        due("idle(): they ended", x.idle(), 31);
    }

    /** "BY THE BOOK: how much of a what (0 .. 2) together". */
    static void partIVByTheBookOfWhat0To2() {
        ProphetLiable x = Check.quiet(2);
        x.prophet(900, 0);
        x.prophet(900, 0);
        for (int what = 0; what <= 2; what++) {
            due("ledger(" + what + ") of nothing", x.ledger(what), 0);
        }
        x.foretell(0, false, 3, 1, 0);
        x.foretell(0, true, 3, 1, 3);
        x.foretell(0, true, 2, 1, 4);
        x.foretell(0, true, 2, 9, 0);
        x.sell(3, 1, 11);
        x.sell(3, 0, 13);
        x.bring(0, 0);
        x.day(2);
        due("ledger(0)", x.ledger(0), 2);
        due("ledger(1)", x.ledger(1), 70);
        due("ledger(2)", x.ledger(2), 24);
        due("ledger(-1)", x.ledger(-1), -2);
        due("ledger(3)", x.ledger(3), -2);
    }

    // ---- part V

    /** A SEED whose second x is this by 6 and leaves rest by another one; by the first one nothing is done. */
    private static int seed(int kind, int by, int rest) {
        for (int seed = 0; seed <= 9999; seed++) {
            int first = xOf(seed);
            int second = Check.next(first);
            if (first % 6 == 3 && first % 5 != 0 && second % 6 == kind && second % by == rest) {
                return seed;
            }
        }
        throw new IllegalStateException("no SEED for " + kind + " and " + rest + " by " + by);
    }

    /** The x of the second turn. */
    private static int drawn(int seed) {
        return Check.next(xOf(seed));
    }

    private static int xOf(int seed) {
        return seed * 2 + 191;
    }

    /** "YEARS by a SEED: X is SEED (0 .. 9999) * 2 + 191". */
    static void partVYearsSeed0To9999() {
        ProphetLiable x = new ProphetLiable();
        due("years(-1, 1)", x.years(-1, 1), NONE);
        due("years(10000, 1)", x.years(10000, 1), NONE);
        due("is(1)", x.is(1), 191);
        due("about(4)", x.about(4), 0);
        due("years(0, 1)", x.years(0, 1), 1);
        due("is(1)", x.is(1), Check.next(191));
        // 20189 mod 6 is 5: a DAY.
        due("years(9999, 1)", x.years(9999, 1), 2);
        due("is(1)", x.is(1), Check.next(20189));
    }

    /** "n times (1 .. 40)". */
    static void partVYears1To40Times() {
        ProphetLiable x = new ProphetLiable();
        due("years(7, 0)", x.years(7, 0), NONE);
        due("years(7, -1)", x.years(7, -1), NONE);
        due("years(7, 41)", x.years(7, 41), NONE);
        due("is(1)", x.is(1), 191);
        due("about(4)", x.about(4), 0);
        int want = xOf(7);
        for (int n = 1; n <= 40; n++) {
            want = Check.next(want);
            due("years(7, " + n + ")", x.years(7, n) >= 0, true);
            due("is(1)", x.is(1), want);
        }
    }

    /** A market of eight FACTS that cost 1 to 8 and never come by themselves, and five PROPHETS with 100 each. */
    private static ProphetLiable yearly() {
        ProphetLiable x = Check.facts(0, 0, 0, 0, 0, 0, 0, 0);
        for (int i = 0; i < 5; i++) {
            x.prophet(100, 0);
        }
        return x;
    }

    private static void foretold(int seed) {
        int drawn = drawn(seed);
        ProphetLiable x = yearly();
        due("years(" + seed + ", 2)", x.years(seed, 2), 0);
        due("is(3)", x.is(3), 1);
        due("word(0, 0)", x.word(0, 0), drawn % 5);
        due("word(0, 1)", x.word(0, 1), drawn % 4 == 0 ? 1 : 0);
        due("word(0, 2)", x.word(0, 2), 1 << drawn % 8 | 1 << drawn / 6 % 8);
        due("word(0, 3)", x.word(0, 3), 1 + drawn % 9);
        due("word(0, 4)", x.word(0, 4), drawn % 50);
        due("PURSE", x.of(drawn % 5, 0), 100 + drawn % 50);
        due("is(2)", x.is(2), 0);
        due("is(1)", x.is(1), Check.next(drawn));
    }

    /** "x mod 6: 0, 1 FORETOLD: all, if x mod 4 is 0, else any". */
    static void partVYearsForetoldAllOrAny() {
        foretold(seed(0, 4, 0));
        foretold(seed(0, 4, 2));
        foretold(seed(1, 4, 1));
        foretold(seed(1, 4, 3));
    }

    /** "of FACT x mod how many and FACT x / 6 mod how many": be they one and the same. */
    static void partVYearsForetoldOfOneFactOrTwo() {
        boolean one = false;
        boolean two = false;
        for (int rest = 0; rest < 96; rest++) {
            if (rest % 6 <= 1) {
                int seed = seed(rest % 6, 96, rest);
                foretold(seed);
                one |= drawn(seed) % 8 == drawn(seed) / 6 % 8;
                two |= drawn(seed) % 8 != drawn(seed) / 6 % 8;
            }
        }
        due("one and the same, and two", one && two, true);
    }

    /** "in 1 and x mod 9 DAYS": from 1 to 9. */
    static void partVYearsForetoldIn1To9Days() {
        foretold(seed(0, 9, 0));
        foretold(seed(1, 9, 1));
        foretold(seed(1, 9, 7));
        foretold(seed(0, 9, 6));
    }

    /** "FEE x mod 50": from 0 to 49. */
    static void partVYearsForetoldFee0To49() {
        foretold(seed(0, 50, 0));
        foretold(seed(1, 50, 49));
    }

    /** "2 BROUGHT ABOUT: FACT x / 6 mod how many". */
    static void partVYearsBroughtAbout() {
        for (int rest = 2; rest < 48; rest += 6) {
            int seed = seed(2, 48, rest);
            int fact = drawn(seed) / 6 % 8;
            ProphetLiable x = yearly();
            due("years(" + seed + ", 2)", x.years(seed, 2), 0);
            due("is(2)", x.is(2), 1 << fact);
            due("PURSE", x.of(drawn(seed) % 5, 0), 100 - fact - 1);
            due("is(3)", x.is(3), 0);
        }
    }

    /** "3 SPOILT likewise, if x mod 5 is 0": else nothing is done. */
    static void partVYearsSpoiltIfXMod5Is0() {
        for (int rest = 0; rest < 5; rest++) {
            int seed = seed(3, 5, rest);
            int fact = drawn(seed) / 6 % 8;
            ProphetLiable x = yearly();
            for (int i = 0; i < 8; i++) {
                x.bring(i % 5, i);
            }
            int purse = x.of(drawn(seed) % 5, 0);
            due("years(" + seed + ", 2)", x.years(seed, 2), 0);
            due("is(2) by " + rest, x.is(2), rest == 0 ? 255 & ~(1 << fact) : 255);
            due("PURSE", x.of(drawn(seed) % 5, 0), rest == 0 ? purse - fact - 1 : purse);
            due("is(1)", x.is(1), Check.next(drawn(seed)));
        }
    }

    /** "of the PROPHET x mod how many there are .. of FACT x mod how many": where there is one, it is that one. */
    static void partVYearsOfOneFactAndOneProphet() {
        int seed = seed(1, 4, 3);
        ProphetLiable x = Check.facts(0);
        x.prophet(5, 0);
        due("years(" + seed + ", 2)", x.years(seed, 2), 0);
        due("word(0, 0)", x.word(0, 0), 0);
        due("word(0, 2)", x.word(0, 2), 1);
        x.years(seed(2, 1, 0), 2);
        due("is(2)", x.is(2), 1);
        x.years(seed(3, 5, 0), 2);
        due("is(2)", x.is(2), 0);
    }

    /** "(each if it can be)": FORETOLD not by one that is RUINED. */
    static void partVYearsForetoldNotByTheRuined() {
        int seed = seed(1, 5, 0);
        ProphetLiable x = yearly();
        x.foretell(0, true, 1, 1, 12);
        x.day(2);
        due("ruined()", x.ruined(), 1);
        due("years(" + seed + ", 2)", x.years(seed, 2), 2);
        due("is(3)", x.is(3), 1);
        due("of(0, 0)", x.of(0, 0), 0);
        due("is(1)", x.is(1), Check.next(drawn(seed)));
    }

    /** "(each if it can be)": FORETOLD not for the 13th time. */
    static void partVYearsForetoldNotTheThirteenth() {
        int seed = seed(0, 5, 1);
        ProphetLiable x = yearly();
        for (int i = 0; i < 11; i++) {
            x.foretell(0, true, 1, 99, 0);
        }
        due("years(" + seed + ", 2)", x.years(seed, 2), 0);
        due("is(3): the twelfth", x.is(3), 12);
        int purse = x.of(1, 0);
        due("years(" + seed + ", 2)", x.years(seed, 2), 0);
        due("is(3)", x.is(3), 12);
        due("of(1, 0)", x.of(1, 0), purse);
    }

    /** "(each if it can be)": BROUGHT ABOUT not what is SO, nor what is too dear. */
    static void partVYearsBroughtAboutIfItCanBe() {
        int seed = seed(2, 5, 3);
        int fact = drawn(seed) / 6 % 8;
        ProphetLiable x = yearly();
        x.bring(0, fact);
        due("years(" + seed + ", 2)", x.years(seed, 2), 0);
        due("is(2)", x.is(2), 1 << fact);
        due("of(3, 0): it is SO", x.of(3, 0), 100);
        for (int purse = fact; purse <= fact + 1; purse++) {
            x = Check.facts(0, 0, 0, 0, 0, 0, 0, 0);
            for (int i = 0; i < 5; i++) {
                x.prophet(i == 3 ? purse : 0, 0);
            }
            x.years(seed, 2);
            due("is(2) by a PURSE of " + purse, x.is(2), purse > fact ? 1 << fact : 0);
            due("of(3, 0)", x.of(3, 0), purse > fact ? 0 : purse);
        }
    }

    /** "(each if it can be)": SPOILT not what isn't SO, nor what is too dear. */
    static void partVYearsSpoiltIfItCanBe() {
        int seed = seed(3, 5, 0);
        int fact = drawn(seed) / 6 % 8;
        ProphetLiable x = yearly();
        due("years(" + seed + ", 2)", x.years(seed, 2), 0);
        due("is(2): not what isn't SO", x.is(2), 0);
        due("of(0, 0)", x.of(drawn(seed) % 5, 0), 100);
        for (int purse = fact; purse <= fact + 1; purse++) {
            x = Check.facts(0, 0, 0, 0, 0, 0, 0, 0);
            x.prophet(purse + fact + 1, 0);
            x.bring(0, fact);
            x.years(seed, 2);
            due("is(2) by a PURSE of " + purse, x.is(2), purse > fact ? 0 : 1 << fact);
            due("of(0, 0)", x.of(0, 0), purse > fact ? 0 : purse);
        }
    }

    /** "else a DAY": by 4 and by 5. */
    static void partVYearsADay() {
        for (int kind = 4; kind <= 5; kind++) {
            int seed = seed(kind, 1, 0);
            ProphetLiable x = Check.quiet(1);
            x.prophet(0, 0);
            x.foretell(0, true, 1, 1, 0);
            x.day(1);
            due("years(" + seed + ", 2)", x.years(seed, 2), 2);
            due("word(0, 5): it ends in it", x.word(0, 5), 2);
            due("is(1): the FACT's draw, too", x.is(1), Check.next(Check.next(drawn(seed))));
        }
    }

    /** "(if it can pass)": not at 9999. */
    static void partVYearsADayIfItCanPass() {
        int seed = seed(4, 1, 0);
        ProphetLiable x = Check.quiet(1);
        Check.pass(x, 9998);
        due("years(" + seed + ", 2)", x.years(seed, 2), 9999);
        due("years(" + seed + ", 2) at 9999", x.years(seed, 2), 9999);
        due("is(1): no draw of the FACT", x.is(1), Check.next(drawn(seed)));
    }

    /** "What there are none of isn't": without PROPHETS, without FACTS, without both only DAYS pass. */
    static void partVYearsWhatThereAreNoneOfIsnt() {
        for (int seed = 0; seed <= 9999; seed += 333) {
            for (int kind = 0; kind < 3; kind++) {
                ProphetLiable x = kind == 0 ? Check.quiet(3) : new ProphetLiable();
                if (kind == 1) {
                    x.prophet(50, 0);
                }
                int left = 40;
                int days = 0;
                for (int drawn = xOf(seed); left > 0; left--) {
                    boolean passes = drawn % 6 >= 4;
                    days += passes ? 1 : 0;
                    drawn = Check.next(drawn);
                    for (int i = 0; i < 3 && passes && kind == 0; i++) {
                        drawn = Check.next(drawn);
                    }
                }
                due("years(" + seed + ", 40)", x.years(seed, 40), days);
                due("is(2)", x.is(2), 0);
                due("is(3)", x.is(3), 0);
                due("of(0, 0)", x.of(0, 0), kind == 1 ? 50 : -2);
            }
        }
    }

    /** "It is one STEP: DAY": also if nothing came of it. */
    static void partVYearsAreOneStep() {
        ProphetLiable x = yearly();
        String before = Check.world(x);
        int day = x.years(77, 40);
        due("is(0)", x.is(0), day);
        due("about(4)", x.about(4), 1);
        due("undo()", x.undo(), 0);
        Check.due("the world", Check.world(x), before);
        int seed = seed(3, 5, 1);
        due("years(" + seed + ", 2): nothing is done", x.years(seed, 2), 0);
        due("about(4)", x.about(4), 1);
        due("undo()", x.undo(), 0);
        Check.due("X, too, is as it was", Check.world(x), before);
    }

    /** "AN IMAGE: all as it is, but the tape and the latest FAULT". */
    static void partVImageHasAllButTheTapeAndTheFault() {
        ProphetLiable x = imaged();
        String all = withoutTapeAndFault(x);
        x.image();
        x.feed(1, 2, 3, 4, 5);
        x.end(17);
        Check.due("back", x.back() + withoutTapeAndFault(x), x.is(0) + all);
        due("about(8)", x.about(8), 17);
        Check.read(x, "day 61;");
        x.feed(1, 2, 3, 4, 5);
        x.back();
        due("fault(0)", x.fault(0), 2);
        due("fault(1)", x.fault(1), 4);
        due("about(8)", x.about(8), 20);
        Check.due("back", withoutTapeAndFault(x), all);
    }

    /** "BACK: all is so again": what was told, read, heard, offered, owed, and done since is gone. */
    static void partVBackAllIsSoAgain() {
        ProphetLiable x = imaged();
        String all = withoutTapeAndFault(x);
        x.image();
        x.fact(3, 3);
        x.prophet(4, 4);
        Check.rule(x, "dues 9;comes 10;");
        x.foretell(1, true, 1, 1, 1);
        x.sell(0, 1, 2);
        x.bring(0, 1);
        x.day(9);
        x.years(5, 9);
        x.offer(true, 1, 5, 5);
        x.heard(1, false);
        x.owed(1, 9);
        x.back();
        Check.due("the market", withoutTapeAndFault(x), all);
        x.by(NONE);
        x.offer(true, 1, NONE, 0);
        x.heard(NONE, true);
        x.owed(NONE, 0);
        x.undo();
        x.back();
        Check.due("the market", withoutTapeAndFault(x), all);
        due("undo(): STEPS are those of then", x.undo(), 2);
    }

    private static ProphetLiable imaged() {
        ProphetLiable x = Check.facts(2, 0);
        x.prophet(60, 5);
        x.prophet(6, 5);
        Check.rule(x, "dues 11 + due;");
        x.foretell(0, true, 2, 5, 4);
        x.day(2);
        x.offer(true, 2, 3, 4);
        x.heard(0, true);
        x.owed(0, 14);
        return x;
    }

    private static String withoutTapeAndFault(ProphetLiable x) {
        StringBuilder sb = new StringBuilder();
        for (int what = 0; what <= 7; what++) {
            sb.append(x.about(what)).append(' ');
        }
        return sb.append(x.whose()).append(' ').append(x.purse(99, false)).append(' ').append(x.worlds(0, 0))
            .append(' ').append(Check.world(x)).toString();
    }
}
