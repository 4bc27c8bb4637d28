import java.util.Arrays;

/**
 * A market in which whoever foretells is liable: FACTS that come about by odds, PROPHETS with
 * purses and fame, PROPHECIES, the TEXTS that rule them, and questions about all of these.
 */
public final class ProphetLiable {
    public static final int NONE = -1;

    private static final int OTHER = -2;

    private static final int FACTS_MOST = 8;
    private static final int PROPHETS_MOST = 5;
    private static final int PROPHECIES_MOST = 12;
    private static final int BOOK_MOST = 30;
    private static final int STEPS_MOST = 30;
    private static final int TEXTS_MOST = 4;
    private static final int TAPE_MOST = 300;
    private static final int CLAUSES_MOST = 24;
    private static final int OPEN_MOST = 8;
    private static final int TOLD_MOST = 8;
    private static final int ODDS_MOST = 10;
    private static final int COST_MOST = 99;
    private static final int PURSE_MOST = 9999;
    private static final int FAME_MOST = 99;
    private static final int FEE_MOST = 999;
    private static final int DUES_MOST = 9999;
    private static final int DUE_IN_MOST = 99;
    private static final int DAY_MOST = 9999;
    private static final int DAYS_MOST = 60;
    private static final int YEARS_MOST = 40;
    private static final int NUMBER_MOST = 9999;
    private static final int VALUE_MOST = 1000000;
    // 3 to the 8th: each FACT is undecided, SO or not.
    private static final int POSITIONS = 6561;

    // Columns of a FACT.
    private static final int TOLD_ODDS = 0;
    private static final int TOLD_COST = 1;

    // Columns of a PROPHET; of() asks by the same numbers.
    private static final int PURSE_COLUMN = 0;
    private static final int FAME_COLUMN = 1;
    private static final int RUINED_COLUMN = 2;

    // Columns of a PROPHECY; word() asks by the same numbers.
    private static final int WHOSE_COLUMN = 0;
    private static final int ALL_COLUMN = 1;
    private static final int FACTS_COLUMN = 2;
    private static final int DUE_COLUMN = 3;
    private static final int FEE_COLUMN = 4;
    private static final int HOW_COLUMN = 5;

    private static final int STILL_OPEN = 0;
    private static final int CAME_TRUE = 1;
    private static final int FAILED = 2;

    private static final int BOOK_TRUE = 0;
    private static final int BOOK_FAILED = 1;
    private static final int BOOK_SOLD = 2;

    // Columns of a WORD on offer.
    private static final int OFFER_ALL = 0;
    private static final int OFFER_FACTS = 1;
    private static final int OFFER_FEE = 2;
    private static final int OFFER_DUES = 3;

    // TOKENS: the words have the numbers of their places in WORDS, from 1 on.
    private static final String WORDS = "comes dues renown fact prophet foretell bring spoil sell day cost fame any all in fee by to price percent of so if then else end or and not many odds who purse facts due ";
    private static final int COMES = 1;
    private static final int DUES = 2;
    private static final int RENOWN = 3;
    private static final int FACT = 4;
    private static final int PROPHET = 5;
    private static final int FORETELL = 6;
    private static final int BRING = 7;
    private static final int SPOIL = 8;
    private static final int SELL = 9;
    private static final int DAY = 10;
    private static final int COST = 11;
    private static final int FAME = 12;
    private static final int ANY = 13;
    private static final int ALL = 14;
    private static final int IN = 15;
    private static final int FEE = 16;
    private static final int BY = 17;
    private static final int TO = 18;
    private static final int PRICE = 19;
    private static final int PERCENT = 20;
    private static final int OF = 21;
    private static final int SO = 22;
    private static final int IF = 23;
    private static final int THEN = 24;
    private static final int ELSE = 25;
    private static final int END = 26;
    private static final int OR = 27;
    private static final int AND = 28;
    private static final int NOT = 29;
    private static final int MANY = 30;
    private static final int ODDS = 31;
    private static final int WHO = 32;
    private static final int PURSE = 33;
    private static final int FACTS = 34;
    private static final int DUE = 35;

    // The signs of one byte have the numbers of their places in SIGNS, from LESS on.
    private static final String SIGNS = "<>=#+-*/(),;";
    private static final int AT_MOST = 38;
    private static final int AT_LEAST = 39;
    private static final int LESS = 40;
    private static final int MORE = 41;
    private static final int LIKE = 42;
    private static final int UNLIKE = 43;
    private static final int PLUS = 44;
    private static final int MINUS = 45;
    private static final int TIMES = 46;
    private static final int OVER = 47;
    private static final int OPEN = 48;
    private static final int CLOSE = 49;
    private static final int COMMA = 50;
    private static final int SEMICOLON = 51;

    private static final int NUMBER = 52;
    private static final int STRANGE = 53;
    private static final int NO_MORE = 54;
    private static final int NEGATE = 55;

    private static final int FAULT_PLACE = 1;
    private static final int FAULT_NUMBER = 2;
    private static final int FAULT_DEEP = 3;
    private static final int FAULT_TWICE = 4;
    private static final int FAULT_NAME = 5;
    private static final int FAULT_CLAUSES = 6;
    private static final int FAULT_FACTS = 7;

    private static final int[] NO_LAW = {};

    private final Market market;
    private final Market kept;
    private final World scratch;
    private final Reader reader;
    private final Reckoner reckoner;
    private final Contest contest;
    private final int[] tape;
    private int tapeLength;
    private int latestFault;
    private int latestPlace;

    public ProphetLiable() {
        market = new Market();
        kept = new Market();
        scratch = new World();
        reader = new Reader();
        reckoner = new Reckoner();
        contest = new Contest();
        tape = new int[TAPE_MOST];
        tapeLength = 0;
        latestFault = NONE;
        latestPlace = NONE;
    }

    // What is told.

    public int fact(int odds, int cost) {
        if (!within(odds, 0, ODDS_MOST) || !within(cost, 0, COST_MOST)) {
            return NONE;
        }
        int number = market.facts.grow();
        market.facts.set(number, TOLD_ODDS, odds);
        market.facts.set(number, TOLD_COST, cost);
        return number;
    }

    public int prophet(int purse, int fame) {
        if (!within(purse, 0, PURSE_MOST) || !within(fame, 0, FAME_MOST)) {
            return NONE;
        }
        int number = market.now.prophets.grow();
        market.now.prophets.set(number, PURSE_COLUMN, purse);
        market.now.prophets.set(number, FAME_COLUMN, fame);
        return number;
    }

    // The tape and TEXTS.

    public int feed(int a, int b, int c, int d, int e) {
        if (tapeLength + 20 > TAPE_MOST) {
            return NONE;
        }
        putFour(a);
        putFour(b);
        putFour(c);
        putFour(d);
        putFour(e);
        return tapeLength;
    }

    private void putFour(int bytes) {
        for (int shift = 24; shift >= 0; shift -= 8) {
            if (tapeLength >= 0 && tapeLength < tape.length) {
                tape[tapeLength] = bytes >> shift & 255;
                tapeLength++;
            }
        }
    }

    public int end(int n) {
        if (!within(n, 0, tapeLength)) {
            return NONE;
        }
        tapeLength = n;
        return n;
    }

    public int text() {
        if (market.textCount >= TEXTS_MOST) {
            return NONE;
        }
        Text read = reader.read(tape, tapeLength);
        tapeLength = 0;
        latestFault = reader.wrong;
        latestPlace = reader.wrong == 0 ? NONE : reader.place();
        return read == null ? NONE : market.addText(read);
    }

    public int fault(int what) {
        if (what == 0) {
            return latestFault;
        }
        return what == 1 ? latestPlace : NONE;
    }

    public boolean by(int text) {
        if (!within(text, NONE, market.textCount - 1)) {
            return false;
        }
        market.rule = text;
        return true;
    }

    // STEPS: each is looked at, then remembered, then done.

    public int foretell(int prophet, boolean all, int facts, int days, int fee) {
        if (!mayForetell(prophet, facts, days, fee)) {
            return NONE;
        }
        market.remember();
        return doForetell(prophet, all, facts, days, fee);
    }

    private boolean mayForetell(int prophet, int facts, int days, int fee) {
        return mayHold(prophet) && someFacts(facts) && within(days, 1, DUE_IN_MOST)
            && within(fee, 0, FEE_MOST) && market.now.prophecies.count < PROPHECIES_MOST;
    }

    private int doForetell(int prophet, boolean every, int facts, int days, int fee) {
        World now = market.now;
        Rows prophecies = now.prophecies;
        int number = prophecies.grow();
        prophecies.set(number, WHOSE_COLUMN, prophet);
        prophecies.set(number, ALL_COLUMN, every ? 1 : 0);
        prophecies.set(number, FACTS_COLUMN, facts);
        prophecies.set(number, DUE_COLUMN, now.today + days);
        prophecies.set(number, FEE_COLUMN, fee);
        now.gain(prophet, fee);
        return number;
    }

    /** Whether there is such a PROPHET and PROPHECIES may still become its. */
    private boolean mayHold(int prophet) {
        Rows prophets = market.now.prophets;
        return prophets.has(prophet) && prophets.get(prophet, RUINED_COLUMN) == 0;
    }

    public boolean bring(int prophet, int fact) {
        if (!mayTurn(prophet, fact, false)) {
            return false;
        }
        market.remember();
        doTurn(prophet, fact);
        return true;
    }

    public boolean spoil(int prophet, int fact) {
        if (!mayTurn(prophet, fact, true)) {
            return false;
        }
        market.remember();
        doTurn(prophet, fact);
        return true;
    }

    /** Whether a PROPHET can pay for turning a FACT that is SO (or isn't) into the contrary. */
    private boolean mayTurn(int prophet, int fact, boolean so) {
        World now = market.now;
        return now.prophets.has(prophet) && market.facts.has(fact) && now.isSo(fact) == so
            && now.prophets.get(prophet, PURSE_COLUMN) >= market.facts.get(fact, TOLD_COST);
    }

    private void doTurn(int prophet, int fact) {
        World now = market.now;
        now.lose(prophet, market.facts.get(fact, TOLD_COST));
        now.so ^= bit(fact);
    }

    public boolean sell(int prophecy, int to, int price) {
        World now = market.now;
        int from = now.prophecies.get(prophecy, WHOSE_COLUMN);
        if (!now.isOpen(prophecy) || !mayHold(to) || from == to || !within(price, 0, FEE_MOST)
            || now.prophets.get(from, PURSE_COLUMN) < price) {
            return false;
        }
        market.remember();
        now.lose(from, price);
        now.gain(to, price);
        now.prophecies.set(prophecy, WHOSE_COLUMN, to);
        now.write(BOOK_SOLD, prophecy, price);
        return true;
    }

    public int day(int n) {
        if (!within(n, 1, DAYS_MOST) || market.now.today + n > DAY_MOST) {
            return NONE;
        }
        int ended = 0;
        for (int i = 0; i < n; i++) {
            market.remember();
            ended += passDay(market.now);
        }
        return ended;
    }

    private int passDay(World world) {
        for (int i = 0; i < market.facts.count; i++) {
            if (!world.isSo(i) && world.draw() % 10 < comesNow(world, i)) {
                world.so |= bit(i);
            }
        }
        int ended = 0;
        for (int i = 0; i < world.prophecies.count; i++) {
            if (world.isOpen(i) && settle(world, i)) {
                ended++;
            }
        }
        world.today++;
        return ended;
    }

    /** Ends an open PROPHECY, if it is SO or due: whether it did. */
    private boolean settle(World world, int prophecy) {
        boolean holds = world.holds(prophecy);
        if (!holds && world.today < world.prophecies.get(prophecy, DUE_COLUMN)) {
            return false;
        }
        if (holds) {
            world.comeTrue(prophecy, renownNow(world, prophecy));
        } else {
            world.fail(prophecy, duesBy(market.ruling(), world, prophecy));
        }
        return true;
    }

    public int played(int text) {
        Text script = market.textAt(text);
        if (script == null) {
            return OTHER;
        }
        Rows clauses = script.clauses;
        for (int i = 0; i < clauses.count; i++) {
            boolean done = clauses.get(i, 0) == DAY ? passDays(clauses.get(i, 1)) : perform(clauses, i);
            if (!done) {
                return i;
            }
        }
        return NONE;
    }

    /** Passes those of n DAYS that can pass: whether all could. */
    private boolean passDays(int n) {
        int can = Math.min(n, DAY_MOST - market.now.today);
        for (int i = 0; i < can; i++) {
            market.remember();
            passDay(market.now);
        }
        return can == n;
    }

    /** Does a CLAUSE other than day as by hand: whether it could be. A law is no act. */
    private boolean perform(Rows clauses, int i) {
        int a = clauses.get(i, 1);
        int b = clauses.get(i, 2);
        int c = clauses.get(i, 3);
        switch (clauses.get(i, 0)) {
            case FACT:
                return fact(a, b) != NONE;
            case PROPHET:
                return prophet(a, b) != NONE;
            case FORETELL:
                return foretell(a, b == 1, c, clauses.get(i, 4), clauses.get(i, 5)) != NONE;
            case BRING:
                return bring(b, a);
            case SPOIL:
                return spoil(b, a);
            case SELL:
                return sell(a, b, c);
            default:
                return true;
        }
    }

    public int years(int seed, int n) {
        if (!within(seed, 0, 9999) || !within(n, 1, YEARS_MOST)) {
            return NONE;
        }
        market.remember();
        market.now.x = seed * 2 + 191;
        for (int i = 0; i < n; i++) {
            takeTurn(market.now.draw());
        }
        return market.now.today;
    }

    private void takeTurn(int x) {
        int kind = x % 6;
        if (kind <= 2 || kind == 3 && x % 5 == 0) {
            act(x, kind);
        }
        // Of the numbers that are left: a 3 that does not spoil is no DAY.
        if (kind > 3 && market.now.today < DAY_MOST) {
            passDay(market.now);
        }
    }

    private void act(int x, int kind) {
        int prophets = market.now.prophets.count;
        int facts = market.facts.count;
        if (prophets == 0 || facts == 0) {
            return;
        }
        int prophet = x % prophets;
        int fact = x / 6 % facts;
        if (kind >= 2) {
            if (mayTurn(prophet, fact, kind == 3)) {
                doTurn(prophet, fact);
            }
            return;
        }
        int set = bit(x % facts) | bit(fact);
        int days = 1 + x % 9;
        int fee = x % 50;
        if (mayForetell(prophet, set, days, fee)) {
            doForetell(prophet, x % 4 == 0, set, days, fee);
        }
    }

    public int undo() {
        return market.takeBack();
    }

    // What is.

    public int of(int prophet, int what) {
        World now = market.now;
        if (!now.prophets.has(prophet) || !within(what, 0, 4)) {
            return OTHER;
        }
        if (what <= RUINED_COLUMN) {
            return now.prophets.get(prophet, what);
        }
        return what == 3 ? now.openOf(prophet) : owes(prophet);
    }

    private int owes(int prophet) {
        World now = market.now;
        int sum = 0;
        for (int i = 0; i < now.prophecies.count; i++) {
            if (now.isOpen(i) && now.prophecies.get(i, WHOSE_COLUMN) == prophet) {
                sum += duesBy(market.ruling(), now, i);
            }
        }
        return sum;
    }

    public int ofFact(int fact, int what) {
        if (!market.facts.has(fact) || !within(what, 0, 3)) {
            return OTHER;
        }
        if (what <= TOLD_COST) {
            return market.facts.get(fact, what);
        }
        if (what == 2) {
            return market.now.isSo(fact) ? 1 : 0;
        }
        return comesNow(market.now, fact);
    }

    public int word(int prophecy, int what) {
        World now = market.now;
        if (!now.prophecies.has(prophecy) || !within(what, 0, 7)) {
            return OTHER;
        }
        if (what <= HOW_COLUMN) {
            return now.prophecies.get(prophecy, what);
        }
        if (what == 6) {
            return duesBy(market.ruling(), now, prophecy);
        }
        return now.holds(prophecy) ? 1 : 0;
    }

    public int is(int what) {
        switch (what) {
            case 0:
                return market.now.today;
            case 1:
                return market.now.x;
            case 2:
                return market.now.so;
            case 3:
                return market.now.prophecies.count;
            default:
                return OTHER;
        }
    }

    public int book(int i, int what) {
        World now = market.now;
        if (i == NONE) {
            return now.book.count;
        }
        return now.book.has(i) && within(what, 0, 3) ? now.written(i, what) : OTHER;
    }

    // The laws, as the TEXT that rules tells them.

    private int comesNow(World world, int fact) {
        int[] law = lawOf(market.ruling(), COMES);
        int odds = market.facts.get(fact, TOLD_ODDS);
        if (law.length == 0) {
            return odds;
        }
        reckoner.tell(DAY, world.today);
        reckoner.tell(MANY, Integer.bitCount(world.so));
        reckoner.tell(FACT, fact);
        reckoner.tell(ODDS, odds);
        reckoner.tell(COST, market.facts.get(fact, TOLD_COST));
        return clamp(reckoner.run(law, world.so), 0, ODDS_MOST);
    }

    private int duesBy(Text text, World world, int prophecy) {
        int[] law = lawOf(text, DUES);
        if (law.length == 0) {
            return 10 * world.prophecies.get(prophecy, FEE_COLUMN);
        }
        tellProphecy(world, prophecy);
        return clamp(reckoner.run(law, world.so), 0, DUES_MOST);
    }

    private int renownNow(World world, int prophecy) {
        int[] law = lawOf(market.ruling(), RENOWN);
        if (law.length == 0) {
            return Integer.bitCount(world.prophecies.get(prophecy, FACTS_COLUMN));
        }
        tellProphecy(world, prophecy);
        return clamp(reckoner.run(law, world.so), 0, FAME_MOST);
    }

    private void tellProphecy(World world, int prophecy) {
        Rows prophecies = world.prophecies;
        int whose = prophecies.get(prophecy, WHOSE_COLUMN);
        reckoner.tell(DAY, world.today);
        reckoner.tell(MANY, Integer.bitCount(world.so));
        reckoner.tell(WHO, whose);
        reckoner.tell(FAME, world.prophets.get(whose, FAME_COLUMN));
        reckoner.tell(PURSE, world.prophets.get(whose, PURSE_COLUMN));
        reckoner.tell(FEE, prophecies.get(prophecy, FEE_COLUMN));
        reckoner.tell(FACTS, Integer.bitCount(prophecies.get(prophecy, FACTS_COLUMN)));
        reckoner.tell(DUE, prophecies.get(prophecy, DUE_COLUMN) - world.today);
    }

    private static int[] lawOf(Text text, int kind) {
        return text == null ? NO_LAW : text.law(kind);
    }

    // What would be: these change nothing but the scratch world.

    public int ahead(int n, int what, int which) {
        if (!within(n, 1, DAYS_MOST) || !mayLookAhead(what, which)) {
            return NONE;
        }
        scratch.take(market.now, 0);
        for (int i = 0; i < n && scratch.today < DAY_MOST; i++) {
            passDay(scratch);
        }
        if (what == 0) {
            return scratch.so;
        }
        return what == 1 ? scratch.prophets.get(which, PURSE_COLUMN)
            : scratch.prophecies.get(which, HOW_COLUMN);
    }

    private boolean mayLookAhead(int what, int which) {
        return what == 0 || what == 1 && market.now.prophets.has(which)
            || what == 2 && market.now.prophecies.has(which);
    }

    public int until(int prophecy) {
        if (!market.now.isOpen(prophecy)) {
            return NONE;
        }
        scratch.take(market.now, 0);
        for (int days = 1; days <= DAYS_MOST && scratch.today < DAY_MOST; days++) {
            passDay(scratch);
            if (!scratch.isOpen(prophecy)) {
                return days;
            }
        }
        return NONE;
    }

    public long odds(boolean all, int facts, int days, boolean low) {
        if (!mayReckonOdds(facts, days)) {
            return NONE;
        }
        return lowestTerm(chances(all, facts, days), allChances(facts, days), low);
    }

    public long fair(boolean all, int facts, int days, int dues, boolean low) {
        if (!mayReckonOdds(facts, days) || !within(dues, 0, FEE_MOST)) {
            return NONE;
        }
        long whole = allChances(facts, days);
        return lowestTerm(dues * (whole - chances(all, facts, days)), whole, low);
    }

    private boolean mayReckonOdds(int facts, int days) {
        return someFacts(facts) && within(days, 1, 4) && Integer.bitCount(facts & ~market.now.so) <= 3;
    }

    /** How many draws there are of the FACTS that aren't SO, each day's of a FACT being 10. */
    private long allChances(int facts, int days) {
        return power(10, days * Integer.bitCount(facts & ~market.now.so));
    }

    /** In how many of all draws any (or every) one of the FACTS is SO. */
    private long chances(boolean every, int facts, int days) {
        long come = 1;
        long miss = 1;
        for (int i = 0; i < market.facts.count; i++) {
            if ((facts & ~market.now.so & bit(i)) != 0) {
                long missing = power(10 - market.facts.get(i, TOLD_ODDS), days);
                come *= power(10, days) - missing;
                miss *= missing;
            }
        }
        if (every) {
            return come;
        }
        return (facts & market.now.so) != 0 ? allChances(facts, days) : allChances(facts, days) - miss;
    }

    private static long power(int base, int exponent) {
        long product = 1;
        for (int i = 0; i < exponent; i++) {
            product *= base;
        }
        return product;
    }

    private static long lowestTerm(long upper, long lower, boolean low) {
        long divisor = lower;
        long rest = upper;
        // Euclid's steps for numbers below 2^63 are fewer than 100.
        for (int i = 0; i < 100 && rest != 0; i++) {
            long next = divisor % rest;
            divisor = rest;
            rest = next;
        }
        long term = low ? lower : upper;
        return divisor == 0 ? term : term / divisor;
    }

    public int least(int prophecies, boolean cost) {
        if (!allOpen(prophecies)) {
            return NONE;
        }
        int useful = factsOf(prophecies) & ~market.now.so;
        int best = useful;
        int bestWeight = weightOf(best);
        for (int set = 0; set < useful; set++) {
            if ((set & ~useful) == 0 && weightOf(set) < bestWeight
                && eachHolds(prophecies, market.now.so | set)) {
                best = set;
                bestWeight = weightOf(set);
            }
        }
        return cost ? costOf(best) : best;
    }

    /** What sets are compared by, as one number: their COST, then how many FACTS they have. */
    private int weightOf(int set) {
        return costOf(set) * (FACTS_MOST + 1) + Integer.bitCount(set);
    }

    /** All FACTS that some of the PROPHECIES are about. */
    private int factsOf(int prophecies) {
        int set = 0;
        for (int i = 0; i < market.now.prophecies.count; i++) {
            set |= (prophecies & bit(i)) == 0 ? 0 : market.now.prophecies.get(i, FACTS_COLUMN);
        }
        return set;
    }

    private int costOf(int set) {
        int sum = 0;
        for (int i = 0; i < market.facts.count; i++) {
            sum += (set & bit(i)) == 0 ? 0 : market.facts.get(i, TOLD_COST);
        }
        return sum;
    }

    private boolean eachHolds(int prophecies, int so) {
        for (int i = 0; i < market.now.prophecies.count; i++) {
            if ((prophecies & bit(i)) != 0 && !market.now.wouldHold(i, so)) {
                return false;
            }
        }
        return true;
    }

    public int stop(int prophecies) {
        if (!allOpen(prophecies)) {
            return NONE;
        }
        int useful = factsOf(prophecies);
        int best = useful;
        for (int set = 0; set < useful; set++) {
            // A FACT more never undoes a PROPHECY: all others being SO is the hardest to stop.
            if ((set & ~useful) == 0 && Integer.bitCount(set) < Integer.bitCount(best)
                && noneHolds(prophecies, useful & ~set)) {
                best = set;
            }
        }
        return best;
    }

    private boolean noneHolds(int prophecies, int so) {
        for (int i = 0; i < market.now.prophecies.count; i++) {
            if ((prophecies & bit(i)) != 0 && market.now.wouldHold(i, so)) {
                return false;
            }
        }
        return true;
    }

    /** Whether it is a set of at least one PROPHECY, each of which is told and open. */
    private boolean allOpen(int prophecies) {
        int open = 0;
        for (int i = 0; i < market.now.prophecies.count; i++) {
            open |= market.now.isOpen(i) ? bit(i) : 0;
        }
        return prophecies > 0 && (prophecies & ~open) == 0;
    }

    // WORDS on offer.

    public int offer(boolean all, int facts, int fee, int dues) {
        Rows offers = market.offers;
        if (fee == NONE) {
            offers.clear();
            return 0;
        }
        if (!someFacts(facts) || !within(fee, 0, FEE_MOST) || !within(dues, 0, FEE_MOST)
            || offers.count >= TOLD_MOST) {
            return OTHER;
        }
        int number = offers.grow();
        offers.set(number, OFFER_ALL, all ? 1 : 0);
        offers.set(number, OFFER_FACTS, facts);
        offers.set(number, OFFER_FEE, fee);
        offers.set(number, OFFER_DUES, dues);
        return offers.count;
    }

    public int purse(int most, boolean fees) {
        if (!within(most, 0, PURSE_MOST)) {
            return NONE;
        }
        int best = 0;
        int bestFees = 0;
        for (int set = 1; set < bit(market.offers.count); set++) {
            int gain = sumOf(set, OFFER_FEE);
            if (gain > bestFees && sumOf(set, OFFER_DUES) <= most + gain) {
                best = set;
                bestFees = gain;
            }
        }
        return fees ? bestFees : best;
    }

    public int worst(int words) {
        if (!within(words, 0, bit(market.offers.count) - 1)) {
            return NONE;
        }
        // In the world in which nothing is SO every WORD fails: no world is worse.
        return sumOf(words, OFFER_DUES);
    }

    private int sumOf(int words, int column) {
        int sum = 0;
        for (int i = 0; i < market.offers.count; i++) {
            sum += (words & bit(i)) == 0 ? 0 : market.offers.get(i, column);
        }
        return sum;
    }

    public int duel(boolean maker, boolean first) {
        if (market.offers.count == 0) {
            return OTHER;
        }
        contest.begin(market.offers);
        if (first) {
            return contest.firstFact(maker);
        }
        return contest.comesAbout(contest.facts, 0, maker, FACTS_MOST) ? 1 : 0;
    }

    // WORLDS.

    public int heard(int fact, boolean so) {
        if (fact == NONE) {
            market.heard.clear();
            return 0;
        }
        return market.facts.has(fact) ? addPair(market.heard, fact, so ? 1 : 0) : OTHER;
    }

    private static int addPair(Rows rows, int first, int second) {
        int number = rows.grow();
        if (number == NONE) {
            return OTHER;
        }
        rows.set(number, 0, first);
        rows.set(number, 1, second);
        return rows.count;
    }

    public int worlds(int prophecy, int what) {
        if (!market.now.prophecies.has(prophecy) || !within(what, 0, 1)) {
            return NONE;
        }
        if (isContradicted()) {
            return 0;
        }
        int known = heardFacts(false);
        return what == 0 ? countWorlds(known) : countSo(prophecy, known, heardFacts(true));
    }

    /** The FACTS that were HEARD of; if soAlone, those HEARD to be SO. */
    private int heardFacts(boolean soAlone) {
        int set = 0;
        for (int i = 0; i < market.heard.count; i++) {
            if (!soAlone || market.heard.get(i, 1) == 1) {
                set |= bit(market.heard.get(i, 0));
            }
        }
        return set;
    }

    /** Whether a FACT was HEARD both to be SO and not to be, so that there is no WORLD. */
    private boolean isContradicted() {
        int so = heardFacts(true);
        for (int i = 0; i < market.heard.count; i++) {
            if (market.heard.get(i, 1) == 0 && (so & bit(market.heard.get(i, 0))) != 0) {
                return true;
            }
        }
        return false;
    }

    /** How many WORLDS there are when the known FACTS are settled. */
    private int countWorlds(int known) {
        return bit(Integer.bitCount(everyFact() & ~known));
    }

    /** In how many WORLDS a PROPHECY is SO, when of the known FACTS those in so are SO. */
    private int countSo(int prophecy, int known, int so) {
        int facts = market.now.prophecies.get(prophecy, FACTS_COLUMN);
        // Of the FACTS that are still free and matter, all are SO, or none is, in just so many.
        int settled = countWorlds(known | facts);
        if (market.now.prophecies.get(prophecy, ALL_COLUMN) == 1) {
            return (facts & known & ~so) == 0 ? settled : 0;
        }
        return (facts & so) != 0 ? countWorlds(known) : countWorlds(known) - settled;
    }

    public int tells(int prophecy) {
        if (!market.now.prophecies.has(prophecy) || isContradicted()) {
            return NONE;
        }
        int known = heardFacts(false);
        int so = heardFacts(true);
        int best = NONE;
        int fewest = 0;
        for (int i = 0; i < market.facts.count; i++) {
            if ((known & bit(i)) == 0) {
                int wrong = countWrong(prophecy, known | bit(i), so | bit(i))
                    + countWrong(prophecy, known | bit(i), so);
                if (best == NONE || wrong < fewest) {
                    best = i;
                    fewest = wrong;
                }
            }
        }
        return best;
    }

    /** Of the WORLDS in which the PROPHECY is SO and those in which it isn't, the fewer. */
    private int countWrong(int prophecy, int known, int so) {
        int right = countSo(prophecy, known, so);
        return Math.min(right, countWorlds(known) - right);
    }

    // Whose law it was.

    public int owed(int prophecy, int dues) {
        if (prophecy == NONE) {
            market.owed.clear();
            return 0;
        }
        if (!market.now.prophecies.has(prophecy) || !within(dues, 0, DUES_MOST)) {
            return OTHER;
        }
        return addPair(market.owed, prophecy, dues);
    }

    public int whose() {
        int set = 0;
        for (int i = 0; i < market.textCount; i++) {
            set |= agrees(market.textAt(i)) ? bit(i) : 0;
        }
        return set;
    }

    private boolean agrees(Text text) {
        for (int i = 0; i < market.owed.count; i++) {
            int prophecy = market.owed.get(i, 0);
            if (market.now.prophecies.has(prophecy)
                && duesBy(text, market.now, prophecy) != market.owed.get(i, 1)) {
                return false;
            }
        }
        return true;
    }

    // PROPHETS and the BOOK.

    public int famous() {
        return firstOfMost(FAME_COLUMN);
    }

    public int richest() {
        return firstOfMost(PURSE_COLUMN);
    }

    private int firstOfMost(int column) {
        Rows prophets = market.now.prophets;
        int best = NONE;
        int most = NONE;
        for (int i = 0; i < prophets.count; i++) {
            if (prophets.get(i, column) > most) {
                best = i;
                most = prophets.get(i, column);
            }
        }
        return best;
    }

    public int ruined() {
        int set = 0;
        for (int i = 0; i < market.now.prophets.count; i++) {
            set |= market.now.prophets.get(i, RUINED_COLUMN) == 1 ? bit(i) : 0;
        }
        return set;
    }

    public int idle() {
        int set = 0;
        for (int i = 0; i < market.now.prophets.count; i++) {
            set |= market.now.openOf(i) == 0 ? bit(i) : 0;
        }
        return set;
    }

    public int ledger(int what) {
        if (!within(what, BOOK_TRUE, BOOK_SOLD)) {
            return OTHER;
        }
        int sum = 0;
        for (int i = 0; i < market.now.book.count; i++) {
            sum += market.now.written(i, 2) == what ? market.now.written(i, 3) : 0;
        }
        return sum;
    }

    // The IMAGE.

    public int image() {
        kept.copyFrom(market);
        return market.now.today;
    }

    public int back() {
        market.copyFrom(kept);
        return market.now.today;
    }

    public int about(int what) {
        switch (what) {
            case 0:
                return market.facts.count;
            case 1:
                return market.now.prophets.count;
            case 2:
                return market.textCount;
            case 3:
                return market.rule;
            case 4:
                return market.steps;
            case 5:
                return market.offers.count;
            case 6:
                return market.heard.count;
            case 7:
                return market.owed.count;
            case 8:
                return tapeLength;
            default:
                return OTHER;
        }
    }

    /** Whether it is a set of at least one FACT, all told. */
    private boolean someFacts(int facts) {
        return within(facts, 1, everyFact());
    }

    private int everyFact() {
        return bit(market.facts.count) - 1;
    }

    private static boolean met(boolean every, int facts, int so) {
        return every ? (facts & ~so) == 0 : (facts & so) != 0;
    }

    private static boolean within(int value, int low, int high) {
        return value >= low && value <= high;
    }

    private static int clamp(int value, int low, int high) {
        return Math.max(low, Math.min(high, value));
    }

    private static int bit(int number) {
        return 1 << number;
    }

    /** Rows of numbers that are told one by one, as many as there is room for. */
    private static final class Rows {
        private final int most;
        private final int width;
        private final int[] cells;
        private int count;

        Rows(int most, int width) {
            this.most = Math.max(0, most);
            this.width = Math.max(0, width);
            this.cells = new int[this.most * this.width];
        }

        boolean has(int row) {
            return row >= 0 && row < count;
        }

        /** What stands there; 0 where there is no such row or column. */
        int get(int row, int column) {
            int at = row * width + column;
            boolean there = row >= 0 && row < count && column >= 0 && column < width;
            return there && at >= 0 && at < cells.length ? cells[at] : 0;
        }

        void set(int row, int column, int value) {
            int at = row * width + column;
            boolean there = row >= 0 && row < count && column >= 0 && column < width;
            if (there && at >= 0 && at < cells.length) {
                cells[at] = value;
            }
        }

        /** A row of zeros behind all others: its number; NONE if there is no room. */
        int grow() {
            if (count >= most) {
                return NONE;
            }
            int row = count;
            count++;
            int from = row * width;
            if (from >= 0 && from + width <= cells.length) {
                Arrays.fill(cells, from, from + width, 0);
            }
            return row;
        }

        /** The eldest row goes, if there is no room for another one. */
        void makeRoom() {
            if (count >= most && count > 0 && width <= cells.length) {
                System.arraycopy(cells, width, cells, 0, cells.length - width);
                count--;
            }
        }

        void clear() {
            count = 0;
        }

        /** The rows of the other one; behind them, what stood here among the first keep rows. */
        void take(Rows other, int keep) {
            int used = Math.min(other.count * other.width, Math.min(other.cells.length, cells.length));
            System.arraycopy(other.cells, 0, cells, 0, Math.max(0, used));
            count = Math.min(most, Math.max(keep, other.count));
        }
    }

    /** All that a STEP can change. */
    private static final class World {
        private int today;
        private int x = 191;
        private int so;
        private final Rows prophets = new Rows(PROPHETS_MOST, 3);
        private final Rows prophecies = new Rows(PROPHECIES_MOST, 6);
        // Of each: DAY, and the rest as one number, since every STEP that is kept has a book.
        private final Rows book = new Rows(BOOK_MOST, 2);

        /** All of the other one; but PROPHETS that it doesn't know, of the first keep, stay. */
        void take(World other, int keep) {
            today = other.today;
            x = other.x;
            so = other.so;
            prophets.take(other.prophets, keep);
            prophecies.take(other.prophecies, 0);
            book.take(other.book, 0);
        }

        int draw() {
            int drawn = x;
            x = (x * 431 + 311) % 30553;
            return drawn;
        }

        boolean isSo(int fact) {
            return (so & bit(fact)) != 0;
        }

        boolean isOpen(int prophecy) {
            return prophecies.has(prophecy) && prophecies.get(prophecy, HOW_COLUMN) == STILL_OPEN;
        }

        int openOf(int prophet) {
            int open = 0;
            for (int i = 0; i < prophecies.count; i++) {
                if (isOpen(i) && prophecies.get(i, WHOSE_COLUMN) == prophet) {
                    open++;
                }
            }
            return open;
        }

        boolean holds(int prophecy) {
            return wouldHold(prophecy, so);
        }

        boolean wouldHold(int prophecy, int facts) {
            return met(prophecies.get(prophecy, ALL_COLUMN) == 1,
                prophecies.get(prophecy, FACTS_COLUMN), facts);
        }

        void gain(int prophet, int much) {
            int purse = prophets.get(prophet, PURSE_COLUMN) + much;
            prophets.set(prophet, PURSE_COLUMN, Math.min(PURSE_MOST, purse));
        }

        void lose(int prophet, int much) {
            prophets.set(prophet, PURSE_COLUMN, prophets.get(prophet, PURSE_COLUMN) - much);
        }

        void comeTrue(int prophecy, int renown) {
            int whose = prophecies.get(prophecy, WHOSE_COLUMN);
            int fame = prophets.get(whose, FAME_COLUMN) + renown;
            prophets.set(whose, FAME_COLUMN, Math.min(FAME_MOST, fame));
            prophecies.set(prophecy, HOW_COLUMN, CAME_TRUE);
            write(BOOK_TRUE, prophecy, renown);
        }

        void fail(int prophecy, int dues) {
            int whose = prophecies.get(prophecy, WHOSE_COLUMN);
            int paid = Math.min(dues, prophets.get(whose, PURSE_COLUMN));
            lose(whose, paid);
            if (paid < dues) {
                prophets.set(whose, RUINED_COLUMN, 1);
            }
            prophecies.set(prophecy, HOW_COLUMN, FAILED);
            write(BOOK_FAILED, prophecy, paid);
        }

        void write(int what, int prophecy, int much) {
            book.makeRoom();
            int row = book.grow();
            book.set(row, 0, today);
            book.set(row, 1, (what * PROPHECIES_MOST + prophecy) * (DUES_MOST + 1) + much);
        }

        /** Of an entry of the BOOK: 0 DAY, 1 PROPHECY, 2 what, else how much. */
        int written(int i, int what) {
            int rest = book.get(i, 1);
            switch (what) {
                case 0:
                    return book.get(i, 0);
                case 1:
                    return rest / (DUES_MOST + 1) % PROPHECIES_MOST;
                case 2:
                    return rest / (DUES_MOST + 1) / PROPHECIES_MOST;
                default:
                    return rest % (DUES_MOST + 1);
            }
        }
    }

    /** All that an IMAGE keeps. */
    private static final class Market {
        private final World now = new World();
        private final World[] past = new World[STEPS_MOST];
        private int eldest;
        private int steps;
        private final Rows facts = new Rows(FACTS_MOST, 2);
        private final Rows offers = new Rows(TOLD_MOST, 4);
        private final Rows heard = new Rows(TOLD_MOST, 2);
        private final Rows owed = new Rows(TOLD_MOST, 2);
        private final Text[] texts = new Text[TEXTS_MOST];
        private int textCount;
        private int rule = NONE;

        Market() {
            for (int i = 0; i < past.length; i++) {
                past[i] = new World();
            }
        }

        /** Keeps the world as it is ahead of a STEP; the eldest one kept makes room. */
        void remember() {
            World kept = pastAt(eldest + steps);
            if (kept != null) {
                kept.take(now, 0);
            }
            if (steps < STEPS_MOST) {
                steps++;
            } else {
                eldest = (eldest + 1) % STEPS_MOST;
            }
        }

        /** The latest STEP is taken back: how many are left; NONE if there was none. */
        int takeBack() {
            World kept = pastAt(eldest + steps - 1);
            if (steps == 0 || kept == null) {
                return NONE;
            }
            now.take(kept, now.prophets.count);
            steps--;
            return steps;
        }

        private World pastAt(int number) {
            int at = number % STEPS_MOST;
            return at >= 0 && at < past.length ? past[at] : null;
        }

        int addText(Text text) {
            if (textCount < 0 || textCount >= texts.length) {
                return NONE;
            }
            texts[textCount] = text;
            textCount++;
            return textCount - 1;
        }

        Text textAt(int number) {
            return number >= 0 && number < textCount && number < texts.length ? texts[number] : null;
        }

        Text ruling() {
            return textAt(rule);
        }

        void copyFrom(Market other) {
            now.take(other.now, 0);
            for (int i = 0; i < STEPS_MOST; i++) {
                World mine = pastAt(i);
                World its = other.pastAt(i);
                if (mine != null && its != null) {
                    mine.take(its, 0);
                }
            }
            eldest = other.eldest;
            steps = other.steps;
            facts.take(other.facts, 0);
            offers.take(other.offers, 0);
            heard.take(other.heard, 0);
            owed.take(other.owed, 0);
            textCount = 0;
            for (int i = 0; i < other.textCount; i++) {
                addText(other.textAt(i));
            }
            rule = other.rule;
        }
    }

    /** A DUEL over all WORDS on offer; each position is reckoned once. */
    private static final class Contest {
        private final int[] anyWords = new int[TOLD_MOST];
        private int anyCount;
        // The FACTS of all WORDS of all: each of these has to be SO.
        private int must;
        private int facts;
        // Two bits for each position: 0 not reckoned yet, 1 it doesn't come about, 2 it does.
        private final int[] found = new int[POSITIONS / 16 + 1];

        void begin(Rows offers) {
            Arrays.fill(found, 0);
            anyCount = 0;
            must = 0;
            facts = 0;
            for (int i = 0; i < offers.count; i++) {
                int set = offers.get(i, OFFER_FACTS);
                facts |= set;
                if (offers.get(i, OFFER_ALL) == 1) {
                    must |= set;
                } else if (anyCount < anyWords.length) {
                    anyWords[anyCount] = set;
                    anyCount++;
                }
            }
        }

        /** The lowest FACT by which the one who begins gets it as it wants; NONE. */
        int firstFact(boolean maker) {
            for (int i = 0; i < FACTS_MOST; i++) {
                if ((facts & bit(i)) != 0 && comesAboutBy(i, facts, 0, maker, FACTS_MOST) == maker) {
                    return i;
                }
            }
            return NONE;
        }

        /**
         * Whether each WORD comes about when the FACTS in left are still to be decided, in at most
         * so many turns, and of the others those in so are SO.
         */
        private boolean comesAbout(int left, int so, boolean makerNext, int turns) {
            if (isWon(so)) {
                return true;
            }
            if (turns <= 0 || !isWon(so | left)) {
                return false;
            }
            int position = positionOf(left, so);
            int known = recall(position);
            if (known != 0) {
                return known == 2;
            }
            boolean comes = !makerNext;
            for (int i = 0; i < FACTS_MOST && comes != makerNext; i++) {
                if ((left & bit(i)) != 0) {
                    comes = comesAboutBy(i, left, so, makerNext, turns);
                }
            }
            keep(position, comes ? 2 : 1);
            return comes;
        }

        private boolean comesAboutBy(int fact, int left, int so, boolean makerNext, int turns) {
            int then = makerNext ? so | bit(fact) : so;
            return comesAbout(left & ~bit(fact), then, !makerNext, turns - 1);
        }

        private boolean isWon(int so) {
            if ((must & ~so) != 0) {
                return false;
            }
            for (int i = 0; i < anyCount && i < anyWords.length; i++) {
                if ((anyWords[i] & so) == 0) {
                    return false;
                }
            }
            return true;
        }

        /** A number of its own for each way in which 8 FACTS are undecided, SO or not. */
        private static int positionOf(int left, int so) {
            int position = 0;
            for (int i = 0; i < FACTS_MOST; i++) {
                int state = (left & bit(i)) != 0 ? 0 : (so & bit(i)) != 0 ? 1 : 2;
                position = position * 3 + state;
            }
            return position;
        }

        private int recall(int position) {
            int at = position / 16;
            return at >= 0 && at < found.length ? found[at] >> position % 16 * 2 & 3 : 0;
        }

        private void keep(int position, int result) {
            int at = position / 16;
            if (at >= 0 && at < found.length) {
                found[at] |= result << position % 16 * 2;
            }
        }
    }

    /** A TEXT that was read: nothing in it changes afterwards, so images share it. */
    private static final class Text {
        // Of each CLAUSE: its first word and up to five numbers.
        private final Rows clauses = new Rows(CLAUSES_MOST, 6);
        private int[] comes = NO_LAW;
        private int[] dues = NO_LAW;
        private int[] renown = NO_LAW;

        /** The code of a law; it is empty where the TEXT has no such law. */
        int[] law(int kind) {
            if (kind == COMES) {
                return comes;
            }
            return kind == DUES ? dues : renown;
        }

        void putLaw(int kind, int[] code) {
            if (kind == COMES) {
                comes = code;
            } else if (kind == DUES) {
                dues = code;
            } else {
                renown = code;
            }
        }
    }

    /** A tape taken apart into its TOKENS, with one more behind them for the end. */
    private static final class Tokens {
        private final int[] kinds = new int[TAPE_MOST + 1];
        private final int[] numbers = new int[TAPE_MOST + 1];
        private final int[] places = new int[TAPE_MOST + 1];
        private int count;

        int numberAt(int i) {
            return i >= 0 && i < count && i < numbers.length ? numbers[i] : 0;
        }

        int placeAt(int i) {
            return i >= 0 && i < count && i < places.length ? places[i] : 0;
        }

        void split(int[] tape, int tapeLength) {
            int length = Math.min(tapeLength, tape.length);
            count = 0;
            int at = 0;
            // Each turn goes on by at least one byte.
            for (int turn = 0; turn < TAPE_MOST && at < length; turn++) {
                int sign = tape[at];
                int behind = at + 1;
                if (isLetter(sign)) {
                    behind = behindWord(tape, at, length);
                    add(wordOf(tape, at, behind), 0, at);
                } else if (isDigit(sign)) {
                    behind = behindNumber(tape, at, length);
                    add(NUMBER, numberOf(tape, at, behind), at);
                } else if (behind < length && tape[behind] == '=' && (sign == '<' || sign == '>')) {
                    behind++;
                    add(sign == '<' ? AT_MOST : AT_LEAST, 0, at);
                } else if (sign != ' ' && sign != '\n') {
                    int index = SIGNS.indexOf((char) sign);
                    add(index < 0 ? STRANGE : LESS + index, 0, at);
                }
                at = behind;
            }
            add(NO_MORE, 0, length);
        }

        private void add(int kind, int number, int place) {
            if (count >= 0 && count < kinds.length && count < numbers.length && count < places.length) {
                kinds[count] = kind;
                numbers[count] = number;
                places[count] = place;
                count++;
            }
        }

        private static boolean isLetter(int sign) {
            return within(sign, 'a', 'z') || within(sign, 'A', 'Z');
        }

        private static boolean isDigit(int sign) {
            return within(sign, '0', '9');
        }

        private static int behindWord(int[] tape, int from, int length) {
            int at = from + 1;
            while (at >= 0 && at < length && at < tape.length && isLetter(tape[at])) {
                at++;
            }
            return at;
        }

        private static int behindNumber(int[] tape, int from, int length) {
            int at = from + 1;
            while (at >= 0 && at < length && at < tape.length && isDigit(tape[at])) {
                at++;
            }
            return at;
        }

        private static int numberOf(int[] tape, int from, int behind) {
            int number = 0;
            for (int at = Math.max(0, from); at < behind && at < tape.length; at++) {
                // One above the most tells that it is too much, however many digits come.
                number = Math.min(NUMBER_MOST + 1, number * 10 + tape[at] - '0');
            }
            return number;
        }

        /** The number of a word of the language; STRANGE if it is none. */
        private static int wordOf(int[] tape, int from, int behind) {
            int word = 1;
            int start = 0;
            for (int i = 0; i < WORDS.length(); i++) {
                if (WORDS.charAt(i) == ' ') {
                    if (i - start == behind - from && isLike(start, tape, from, behind)) {
                        return word;
                    }
                    word++;
                    start = i + 1;
                }
            }
            return STRANGE;
        }

        private static boolean isLike(int start, int[] tape, int from, int behind) {
            int in = start;
            for (int at = Math.max(0, from); at < behind && at < tape.length; at++) {
                if (in < 0 || in >= WORDS.length() || WORDS.charAt(in) != tape[at]) {
                    return false;
                }
                in++;
            }
            return true;
        }
    }

    /**
     * Reads a tape as a TEXT, by a descent along the grammar that stays at the first FAULT. Laws
     * become code with each operation behind what it takes: NUMBERS as they are, all else as the
     * TOKEN's number below 0.
     */
    private static final class Reader {
        private final Tokens tokens = new Tokens();
        private final int[] code = new int[TAPE_MOST];
        private int codeLength;
        private int at;
        private int token;
        private int wrong;
        private int clauseLaw;
        private Text draft = new Text();

        /** The TEXT; null if it has a FAULT, which wrong and place() tell then. */
        Text read(int[] tape, int tapeLength) {
            tokens.split(tape, tapeLength);
            at = NONE;
            advance();
            wrong = 0;
            draft = new Text();
            // One turn more than there may be CLAUSES finds the one too many.
            for (int i = 0; i <= CLAUSES_MOST && wrong == 0 && token != NO_MORE; i++) {
                readClause();
            }
            return wrong == 0 ? draft : null;
        }

        /** Where the TOKEN stands that has been come to. */
        int place() {
            return tokens.placeAt(at);
        }

        private void advance() {
            at++;
            boolean there = at >= 0 && at < tokens.count && at < tokens.kinds.length;
            token = there ? tokens.kinds[at] : NO_MORE;
        }

        private void blame(int fault) {
            if (wrong == 0) {
                wrong = fault;
            }
        }

        private void expect(int wanted) {
            if (wrong == 0 && token != wanted) {
                blame(FAULT_PLACE);
            }
            if (wrong == 0) {
                advance();
            }
        }

        /** A NUMBER from low to high; 0 behind a FAULT. */
        private int readNumber(int low, int high) {
            if (wrong != 0) {
                return 0;
            }
            int value = tokens.numberAt(at);
            if (token != NUMBER) {
                blame(FAULT_PLACE);
            } else if (value < low || value > high) {
                blame(FAULT_NUMBER);
            } else {
                advance();
            }
            return wrong == 0 ? value : 0;
        }

        private void readClause() {
            int kind = token;
            boolean isLaw = within(kind, COMES, RENOWN);
            if (!within(kind, COMES, DAY)) {
                blame(FAULT_PLACE);
            } else if (isLaw && draft.law(kind).length > 0) {
                blame(FAULT_TWICE);
            } else if (draft.clauses.count >= CLAUSES_MOST) {
                blame(FAULT_CLAUSES);
            } else {
                int row = draft.clauses.grow();
                draft.clauses.set(row, 0, kind);
                advance();
                if (isLaw) {
                    readLaw(kind);
                } else if (kind == FORETELL) {
                    readForetell(row);
                } else {
                    readAct(kind, row);
                }
                expect(SEMICOLON);
            }
        }

        private void readLaw(int kind) {
            clauseLaw = kind;
            codeLength = 0;
            readSum(0);
            if (wrong == 0 && within(codeLength, 1, code.length)) {
                int[] copy = new int[codeLength];
                System.arraycopy(code, 0, copy, 0, codeLength);
                draft.putLaw(kind, copy);
            }
        }

        private void readAct(int kind, int row) {
            Rows clauses = draft.clauses;
            switch (kind) {
                case FACT:
                    clauses.set(row, 1, readNumber(0, ODDS_MOST));
                    expect(COST);
                    clauses.set(row, 2, readNumber(0, COST_MOST));
                    break;
                case PROPHET:
                    clauses.set(row, 1, readNumber(0, PURSE_MOST));
                    expect(FAME);
                    clauses.set(row, 2, readNumber(0, FAME_MOST));
                    break;
                case SELL:
                    clauses.set(row, 1, readNumber(0, PROPHECIES_MOST - 1));
                    expect(TO);
                    clauses.set(row, 2, readNumber(0, PROPHETS_MOST - 1));
                    expect(PRICE);
                    clauses.set(row, 3, readNumber(0, FEE_MOST));
                    break;
                case DAY:
                    clauses.set(row, 1, readNumber(1, DAYS_MOST));
                    break;
                default:
                    clauses.set(row, 1, readNumber(0, FACTS_MOST - 1));
                    expect(BY);
                    clauses.set(row, 2, readNumber(0, PROPHETS_MOST - 1));
                    break;
            }
        }

        private void readForetell(int row) {
            Rows clauses = draft.clauses;
            clauses.set(row, 1, readNumber(0, PROPHETS_MOST - 1));
            clauses.set(row, 2, token == ALL ? 1 : 0);
            expect(token == ALL ? ALL : ANY);
            clauses.set(row, 3, readFacts());
            expect(IN);
            clauses.set(row, 4, readNumber(1, DUE_IN_MOST));
            expect(FEE);
            clauses.set(row, 5, readNumber(0, FEE_MOST));
        }

        private int readFacts() {
            int set = bit(readNumber(0, FACTS_MOST - 1));
            for (int count = 1; wrong == 0 && token == COMMA && count <= FACTS_MOST; count++) {
                if (count == FACTS_MOST) {
                    blame(FAULT_FACTS);
                } else {
                    advance();
                    set |= bit(readNumber(0, FACTS_MOST - 1));
                }
            }
            return set;
        }

        // Below, open tells how many of ( not percent so if and - are open around.

        private void emit(int step) {
            if (wrong == 0 && codeLength >= 0 && codeLength < code.length) {
                code[codeLength] = step;
                codeLength++;
            }
        }

        private void readSum(int open) {
            readProduct(open);
            for (int i = 0; i < TAPE_MOST && wrong == 0 && (token == PLUS || token == MINUS); i++) {
                int sign = token;
                advance();
                readProduct(open);
                emit(-sign);
            }
        }

        private void readProduct(int open) {
            readOne(open);
            for (int i = 0; i < TAPE_MOST && wrong == 0 && (token == TIMES || token == OVER); i++) {
                int sign = token;
                advance();
                readOne(open);
                emit(-sign);
            }
        }

        private void readOne(int open) {
            if (wrong != 0) {
                return;
            }
            int first = token;
            if (first == NUMBER) {
                emit(readNumber(0, NUMBER_MOST));
            } else if (isName(first)) {
                readName(first);
            } else if (!opensOne(first)) {
                blame(FAULT_PLACE);
            } else if (open >= OPEN_MOST) {
                blame(FAULT_DEEP);
            } else {
                advance();
                readInside(first, open + 1);
            }
        }

        private static boolean opensOne(int id) {
            return id == OPEN || id == MINUS || id == PERCENT || id == SO || id == IF;
        }

        private static boolean isName(int id) {
            return id == DAY || id == FACT || id == COST || id == FAME || id == FEE
                || within(id, MANY, DUE);
        }

        private void readName(int name) {
            boolean ofComes = name == FACT || name == ODDS || name == COST;
            if (name != DAY && name != MANY && ofComes != (clauseLaw == COMES)) {
                blame(FAULT_NAME);
            } else {
                emit(-name);
                advance();
            }
        }

        private void readInside(int first, int open) {
            switch (first) {
                case OPEN:
                    readSum(open);
                    expect(CLOSE);
                    break;
                case MINUS:
                    readOne(open);
                    emit(-NEGATE);
                    break;
                case SO:
                    readOne(open);
                    emit(-SO);
                    break;
                case PERCENT:
                    readOne(open);
                    expect(OF);
                    readOne(open);
                    emit(-PERCENT);
                    break;
                default:
                    readIf(open);
                    break;
            }
        }

        /** Both SUMS become code: reckoning the one that isn't chosen changes nothing. */
        private void readIf(int open) {
            readEither(open);
            expect(THEN);
            readSum(open);
            expect(ELSE);
            readSum(open);
            expect(END);
            emit(-IF);
        }

        private void readEither(int open) {
            readBoth(open);
            for (int i = 0; i < TAPE_MOST && wrong == 0 && token == OR; i++) {
                advance();
                readBoth(open);
                emit(-OR);
            }
        }

        private void readBoth(int open) {
            readAsk(open);
            for (int i = 0; i < TAPE_MOST && wrong == 0 && token == AND; i++) {
                advance();
                readAsk(open);
                emit(-AND);
            }
        }

        private void readAsk(int open) {
            if (wrong != 0) {
                return;
            }
            if (token != NOT) {
                readComparison(open);
            } else if (open >= OPEN_MOST) {
                blame(FAULT_DEEP);
            } else {
                advance();
                readAsk(open + 1);
                emit(-NOT);
            }
        }

        private void readComparison(int open) {
            readSum(open);
            int sign = token;
            if (!within(sign, AT_MOST, UNLIKE)) {
                blame(FAULT_PLACE);
            }
            if (wrong == 0) {
                advance();
                readSum(open);
                emit(-sign);
            }
        }
    }

    /** Reckons what the code of a law comes to. */
    private static final class Reckoner {
        private final int[] names = new int[DUE + 1];
        private final int[] stack = new int[TAPE_MOST + 3];

        void tell(int name, int value) {
            if (name >= 0 && name < names.length) {
                names[name] = value;
            }
        }

        int run(int[] code, int so) {
            int height = 0;
            for (int i = 0; i < code.length; i++) {
                int step = code[i];
                int takes = takesOf(step);
                height = Math.max(0, height - takes);
                if (height + 2 < stack.length) {
                    stack[height] = takes == 0 ? simple(step)
                        : limit(value(-step, stack[height], stack[height + 1], stack[height + 2], so));
                    height++;
                }
            }
            return stack.length > 0 ? stack[0] : 0;
        }

        private static int takesOf(int step) {
            int id = -step;
            boolean isName = id <= DUE && (id < PERCENT || id > NOT);
            if (isName) {
                return 0;
            }
            if (id == NEGATE || id == SO || id == NOT) {
                return 1;
            }
            return id == IF ? 3 : 2;
        }

        /** What a NUMBER or a NAME is. */
        private int simple(int step) {
            if (step >= 0) {
                return step;
            }
            return -step < names.length ? names[-step] : 0;
        }

        private static int limit(long value) {
            return (int) Math.max(-VALUE_MOST, Math.min(VALUE_MOST, value));
        }

        private static long value(int operation, long a, long b, long c, int so) {
            switch (operation) {
                case PLUS:
                    return a + b;
                case MINUS:
                    return a - b;
                case TIMES:
                    return a * b;
                case OVER:
                    return b == 0 ? 0 : a / b;
                case PERCENT:
                    return b == 0 ? 0 : 100 * a / b;
                case NEGATE:
                    return -a;
                case SO:
                    return a >= 0 && a < FACTS_MOST ? so >> (int) a & 1 : 0;
                case IF:
                    return a != 0 ? b : c;
                case LESS:
                    return a < b ? 1 : 0;
                case AT_MOST:
                    return a <= b ? 1 : 0;
                case MORE:
                    return a > b ? 1 : 0;
                case AT_LEAST:
                    return a >= b ? 1 : 0;
                case LIKE:
                    return a == b ? 1 : 0;
                case UNLIKE:
                    return a != b ? 1 : 0;
                case NOT:
                    return a == 0 ? 1 : 0;
                case AND:
                    return a != 0 && b != 0 ? 1 : 0;
                default:
                    return a != 0 || b != 0 ? 1 : 0;
            }
        }
    }
}
