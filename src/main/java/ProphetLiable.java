/**
 * A market in which whoever foretells is liable: FACTS that come about by odds, PROPHETS with
 * purses and fame, PROPHECIES, the TEXTS that rule them, and questions about all of these.
 */
public final class ProphetLiable {
    public static final int NONE = -1;

    private static final int OTHER = -2;

    private static final int FACTS_MOST = 8;
    private static final int PROPHETS_MOST = 5;
    private static final int PROPHECIES_MOST = 12;
    private static final int BOOK_MOST = 30;
    private static final int STEPS_MOST = 30;
    private static final int TEXTS_MOST = 4;
    private static final int TAPE_MOST = 300;
    private static final int CLAUSES_MOST = 24;
    private static final int OPEN_MOST = 8;
    private static final int TOLD_MOST = 8;
    private static final int ODDS_MOST = 10;
    private static final int COST_MOST = 99;
    private static final int PURSE_MOST = 9999;
    private static final int FAME_MOST = 99;
    private static final int FEE_MOST = 999;
    private static final int DUES_MOST = 9999;
    private static final int DUE_IN_MOST = 99;
    private static final int DAY_MOST = 9999;
    private static final int DAYS_MOST = 60;
    private static final int YEARS_MOST = 40;
    private static final int NUMBER_MOST = 9999;
    private static final int VALUE_MOST = 1000000;

    // Columns of a FACT.
    private static final int TOLD_ODDS = 0;
    private static final int TOLD_COST = 1;

    // Columns of a PROPHET; of() asks by the same numbers.
    private static final int PURSE_COLUMN = 0;
    private static final int FAME_COLUMN = 1;
    private static final int RUINED_COLUMN = 2;

    // Columns of a PROPHECY; word() asks by the same numbers.
    private static final int WHOSE_COLUMN = 0;
    private static final int ALL_COLUMN = 1;
    private static final int FACTS_COLUMN = 2;
    private static final int DUE_COLUMN = 3;
    private static final int FEE_COLUMN = 4;
    private static final int HOW_COLUMN = 5;

    private static final int STILL_OPEN = 0;
    private static final int CAME_TRUE = 1;
    private static final int FAILED = 2;

    private static final int BOOK_TRUE = 0;
    private static final int BOOK_FAILED = 1;
    private static final int BOOK_SOLD = 2;

    // Columns of a WORD on offer.
    private static final int OFFER_ALL = 0;
    private static final int OFFER_FACTS = 1;
    private static final int OFFER_FEE = 2;
    private static final int OFFER_DUES = 3;

    // TOKENS: the words have the numbers of their places in WORDS, from 1 on.
    private static final String WORDS = "comes dues renown fact prophet foretell bring spoil sell day cost fame any all in fee by to price percent of so if then else end or and not many odds who purse facts due ";
    private static final int COMES = 1;
    private static final int DUES = 2;
    private static final int RENOWN = 3;
    private static final int FACT = 4;
    private static final int PROPHET = 5;
    private static final int FORETELL = 6;
    private static final int BRING = 7;
    private static final int SPOIL = 8;
    private static final int SELL = 9;
    private static final int DAY = 10;
    private static final int COST = 11;
    private static final int FAME = 12;
    private static final int ANY = 13;
    private static final int ALL = 14;
    private static final int IN = 15;
    private static final int FEE = 16;
    private static final int BY = 17;
    private static final int TO = 18;
    private static final int PRICE = 19;
    private static final int PERCENT = 20;
    private static final int OF = 21;
    private static final int SO = 22;
    private static final int IF = 23;
    private static final int THEN = 24;
    private static final int ELSE = 25;
    private static final int END = 26;
    private static final int OR = 27;
    private static final int AND = 28;
    private static final int NOT = 29;
    private static final int MANY = 30;
    private static final int ODDS = 31;
    private static final int WHO = 32;
    private static final int PURSE = 33;
    private static final int FACTS = 34;
    private static final int DUE = 35;

    // The signs of one byte have the numbers of their places in SIGNS, from LESS on.
    private static final String SIGNS = "<>=#+-*/(),;";
    private static final int AT_MOST = 38;
    private static final int AT_LEAST = 39;
    private static final int LESS = 40;
    private static final int MORE = 41;
    private static final int LIKE = 42;
    private static final int UNLIKE = 43;
    private static final int PLUS = 44;
    private static final int MINUS = 45;
    private static final int TIMES = 46;
    private static final int OVER = 47;
    private static final int OPEN = 48;
    private static final int CLOSE = 49;
    private static final int COMMA = 50;
    private static final int SEMICOLON = 51;

    private static final int NUMBER = 52;
    private static final int STRANGE = 53;
    private static final int NO_MORE = 54;
    private static final int NEGATE = 55;

    private static final int FAULT_PLACE = 1;
    private static final int FAULT_NUMBER = 2;
    private static final int FAULT_DEEP = 3;
    private static final int FAULT_TWICE = 4;
    private static final int FAULT_NAME = 5;
    private static final int FAULT_CLAUSES = 6;
    private static final int FAULT_FACTS = 7;

    private static final int[] NO_LAW = {};

    private final Market all;
    private final Market kept;
    private final World scratch;
    private final Reader reader;
    private final Reckoner reckoner;
    private final int[] tape;
    private int tapeLength;
    private int latestFault;
    private int latestPlace;

    public ProphetLiable() {
        all = new Market();
        kept = new Market();
        scratch = new World();
        reader = new Reader();
        reckoner = new Reckoner();
        tape = new int[TAPE_MOST];
        tapeLength = 0;
        latestFault = NONE;
        latestPlace = NONE;
    }

    // What is told.

    public int fact(int odds, int cost) {
        if (!within(odds, 0, ODDS_MOST) || !within(cost, 0, COST_MOST)) {
            return NONE;
        }
        int number = all.facts.grow();
        all.facts.set(number, TOLD_ODDS, odds);
        all.facts.set(number, TOLD_COST, cost);
        return number;
    }

    public int prophet(int purse, int fame) {
        if (!within(purse, 0, PURSE_MOST) || !within(fame, 0, FAME_MOST)) {
            return NONE;
        }
        int number = all.now.prophets.grow();
        all.now.prophets.set(number, PURSE_COLUMN, purse);
        all.now.prophets.set(number, FAME_COLUMN, fame);
        return number;
    }

    // The tape and TEXTS.

    public int feed(int a, int b, int c, int d, int e) {
        if (tapeLength + 20 > TAPE_MOST) {
            return NONE;
        }
        putFour(a);
        putFour(b);
        putFour(c);
        putFour(d);
        putFour(e);
        return tapeLength;
    }

    private void putFour(int bytes) {
        for (int shift = 24; shift >= 0; shift -= 8) {
            if (tapeLength >= 0 && tapeLength < tape.length) {
                tape[tapeLength] = bytes >> shift & 255;
                tapeLength++;
            }
        }
    }

    public int end(int n) {
        if (!within(n, 0, tapeLength)) {
            return NONE;
        }
        tapeLength = n;
        return n;
    }

    public int text() {
        if (all.textCount >= TEXTS_MOST) {
            return NONE;
        }
        Text read = reader.read(tape, tapeLength);
        tapeLength = 0;
        latestFault = reader.wrong;
        latestPlace = reader.wrong == 0 ? NONE : reader.place;
        return read == null ? NONE : all.addText(read);
    }

    public int fault(int what) {
        if (what == 0) {
            return latestFault;
        }
        return what == 1 ? latestPlace : NONE;
    }

    public boolean by(int text) {
        if (!within(text, NONE, all.textCount - 1)) {
            return false;
        }
        all.rule = text;
        return true;
    }

    // STEPS: each is looked at, then remembered, then done.

    public int foretell(int prophet, boolean all, int facts, int days, int fee) {
        if (!mayForetell(prophet, facts, days, fee)) {
            return NONE;
        }
        this.all.remember();
        return doForetell(prophet, all, facts, days, fee);
    }

    private boolean mayForetell(int prophet, int facts, int days, int fee) {
        return mayHold(prophet) && someFacts(facts) && within(days, 1, DUE_IN_MOST)
            && within(fee, 0, FEE_MOST) && all.now.prophecies.count < PROPHECIES_MOST;
    }

    private int doForetell(int prophet, boolean every, int facts, int days, int fee) {
        World now = all.now;
        Rows prophecies = now.prophecies;
        int number = prophecies.grow();
        prophecies.set(number, WHOSE_COLUMN, prophet);
        prophecies.set(number, ALL_COLUMN, every ? 1 : 0);
        prophecies.set(number, FACTS_COLUMN, facts);
        prophecies.set(number, DUE_COLUMN, now.today + days);
        prophecies.set(number, FEE_COLUMN, fee);
        now.gain(prophet, fee);
        return number;
    }

    /** Whether there is such a PROPHET and PROPHECIES may still become its. */
    private boolean mayHold(int prophet) {
        Rows prophets = all.now.prophets;
        return prophets.has(prophet) && prophets.get(prophet, RUINED_COLUMN) == 0;
    }

    public boolean bring(int prophet, int fact) {
        if (!mayTurn(prophet, fact, false)) {
            return false;
        }
        all.remember();
        doTurn(prophet, fact);
        return true;
    }

    public boolean spoil(int prophet, int fact) {
        if (!mayTurn(prophet, fact, true)) {
            return false;
        }
        all.remember();
        doTurn(prophet, fact);
        return true;
    }

    /** Whether a PROPHET can pay for turning a FACT that is SO (or isn't) into the contrary. */
    private boolean mayTurn(int prophet, int fact, boolean so) {
        World now = all.now;
        return now.prophets.has(prophet) && all.facts.has(fact) && now.isSo(fact) == so
            && now.prophets.get(prophet, PURSE_COLUMN) >= all.facts.get(fact, TOLD_COST);
    }

    private void doTurn(int prophet, int fact) {
        World now = all.now;
        now.lose(prophet, all.facts.get(fact, TOLD_COST));
        now.so ^= bit(fact);
    }

    public boolean sell(int prophecy, int to, int price) {
        World now = all.now;
        int from = now.prophecies.get(prophecy, WHOSE_COLUMN);
        if (!now.isOpen(prophecy) || !mayHold(to) || from == to || !within(price, 0, FEE_MOST)
            || now.prophets.get(from, PURSE_COLUMN) < price) {
            return false;
        }
        all.remember();
        now.lose(from, price);
        now.gain(to, price);
        now.prophecies.set(prophecy, WHOSE_COLUMN, to);
        now.write(BOOK_SOLD, prophecy, price);
        return true;
    }

    public int day(int n) {
        if (!within(n, 1, DAYS_MOST) || all.now.today + n > DAY_MOST) {
            return NONE;
        }
        int ended = 0;
        for (int i = 0; i < n; i++) {
            all.remember();
            ended += passDay(all.now);
        }
        return ended;
    }

    private int passDay(World world) {
        for (int i = 0; i < all.facts.count; i++) {
            if (!world.isSo(i) && world.draw() % 10 < comesNow(world, i)) {
                world.so |= bit(i);
            }
        }
        int ended = 0;
        for (int i = 0; i < world.prophecies.count; i++) {
            if (world.isOpen(i) && settle(world, i)) {
                ended++;
            }
        }
        world.today++;
        return ended;
    }

    /** Ends an open PROPHECY, if it is SO or due: whether it did. */
    private boolean settle(World world, int prophecy) {
        if (world.holds(prophecy)) {
            comeTrue(world, prophecy);
            return true;
        }
        if (world.today < world.prophecies.get(prophecy, DUE_COLUMN)) {
            return false;
        }
        fail(world, prophecy);
        return true;
    }

    private void comeTrue(World world, int prophecy) {
        int whose = world.prophecies.get(prophecy, WHOSE_COLUMN);
        int renown = renownNow(world, prophecy);
        int fame = world.prophets.get(whose, FAME_COLUMN);
        world.prophets.set(whose, FAME_COLUMN, Math.min(FAME_MOST, fame + renown));
        world.prophecies.set(prophecy, HOW_COLUMN, CAME_TRUE);
        world.write(BOOK_TRUE, prophecy, renown);
    }

    private void fail(World world, int prophecy) {
        int whose = world.prophecies.get(prophecy, WHOSE_COLUMN);
        int dues = duesBy(all.ruling(), world, prophecy);
        int paid = Math.min(dues, world.prophets.get(whose, PURSE_COLUMN));
        world.lose(whose, paid);
        if (paid < dues) {
            world.prophets.set(whose, RUINED_COLUMN, 1);
        }
        world.prophecies.set(prophecy, HOW_COLUMN, FAILED);
        world.write(BOOK_FAILED, prophecy, paid);
    }

    public int played(int text) {
        Text script = all.textAt(text);
        if (script == null) {
            return OTHER;
        }
        Rows clauses = script.clauses;
        for (int i = 0; i < clauses.count; i++) {
            if (!perform(clauses, i)) {
                return i;
            }
        }
        return NONE;
    }

    /** Does a CLAUSE as by hand: whether it could be. A law has nothing to be done. */
    private boolean perform(Rows clauses, int i) {
        int a = clauses.get(i, 1);
        int b = clauses.get(i, 2);
        int c = clauses.get(i, 3);
        switch (clauses.get(i, 0)) {
            case FACT:
                return fact(a, b) != NONE;
            case PROPHET:
                return prophet(a, b) != NONE;
            case FORETELL:
                return foretell(a, b == 1, c, clauses.get(i, 4), clauses.get(i, 5)) != NONE;
            case BRING:
                return bring(b, a);
            case SPOIL:
                return spoil(b, a);
            case SELL:
                return sell(a, b, c);
            case DAY:
                return passSome(a);
            default:
                return true;
        }
    }

    /** Passes those of n DAYS that can pass: whether all could. */
    private boolean passSome(int n) {
        int can = Math.min(n, DAY_MOST - all.now.today);
        day(can);
        return can == n;
    }

    public int years(int seed, int n) {
        if (!within(seed, 0, 9999) || !within(n, 1, YEARS_MOST)) {
            return NONE;
        }
        all.remember();
        all.now.x = seed * 2 + 191;
        for (int i = 0; i < n; i++) {
            takeTurn(all.now.draw());
        }
        return all.now.today;
    }

    private void takeTurn(int x) {
        int kind = x % 6;
        if (kind <= 2 || kind == 3 && x % 5 == 0) {
            act(x, kind);
        } else if (all.now.today < DAY_MOST) {
            passDay(all.now);
        }
    }

    private void act(int x, int kind) {
        int prophets = all.now.prophets.count;
        int facts = all.facts.count;
        if (prophets == 0 || facts == 0) {
            return;
        }
        int prophet = x % prophets;
        int fact = x / 6 % facts;
        if (kind >= 2) {
            if (mayTurn(prophet, fact, kind == 3)) {
                doTurn(prophet, fact);
            }
            return;
        }
        int set = bit(x % facts) | bit(fact);
        int days = 1 + x % 9;
        int fee = x % 50;
        if (mayForetell(prophet, set, days, fee)) {
            doForetell(prophet, x % 4 == 0, set, days, fee);
        }
    }

    public int undo() {
        return all.takeBack();
    }

    // What is.

    public int of(int prophet, int what) {
        World now = all.now;
        if (!now.prophets.has(prophet) || !within(what, 0, 4)) {
            return OTHER;
        }
        if (what <= RUINED_COLUMN) {
            return now.prophets.get(prophet, what);
        }
        return what == 3 ? now.openOf(prophet) : owes(prophet);
    }

    private int owes(int prophet) {
        World now = all.now;
        int sum = 0;
        for (int i = 0; i < now.prophecies.count; i++) {
            if (now.isOpen(i) && now.prophecies.get(i, WHOSE_COLUMN) == prophet) {
                sum += duesBy(all.ruling(), now, i);
            }
        }
        return sum;
    }

    public int ofFact(int fact, int what) {
        if (!all.facts.has(fact) || !within(what, 0, 3)) {
            return OTHER;
        }
        if (what <= TOLD_COST) {
            return all.facts.get(fact, what);
        }
        if (what == 2) {
            return all.now.isSo(fact) ? 1 : 0;
        }
        return comesNow(all.now, fact);
    }

    public int word(int prophecy, int what) {
        World now = all.now;
        if (!now.prophecies.has(prophecy) || !within(what, 0, 7)) {
            return OTHER;
        }
        if (what <= HOW_COLUMN) {
            return now.prophecies.get(prophecy, what);
        }
        if (what == 6) {
            return duesBy(all.ruling(), now, prophecy);
        }
        return now.holds(prophecy) ? 1 : 0;
    }

    public int is(int what) {
        switch (what) {
            case 0:
                return all.now.today;
            case 1:
                return all.now.x;
            case 2:
                return all.now.so;
            case 3:
                return all.now.prophecies.count;
            default:
                return OTHER;
        }
    }

    public int book(int i, int what) {
        World now = all.now;
        if (i == NONE) {
            return now.book.count;
        }
        return now.book.has(i) && within(what, 0, 3) ? now.written(i, what) : OTHER;
    }

    // The laws, as the TEXT that rules tells them.

    private int comesNow(World world, int fact) {
        int[] law = lawOf(all.ruling(), COMES);
        int odds = all.facts.get(fact, TOLD_ODDS);
        if (law.length == 0) {
            return odds;
        }
        reckoner.tell(DAY, world.today);
        reckoner.tell(MANY, Integer.bitCount(world.so));
        reckoner.tell(FACT, fact);
        reckoner.tell(ODDS, odds);
        reckoner.tell(COST, all.facts.get(fact, TOLD_COST));
        return clamp(reckoner.run(law, world.so), 0, ODDS_MOST);
    }

    private int duesBy(Text text, World world, int prophecy) {
        int[] law = lawOf(text, DUES);
        if (law.length == 0) {
            return 10 * world.prophecies.get(prophecy, FEE_COLUMN);
        }
        tellProphecy(world, prophecy);
        return clamp(reckoner.run(law, world.so), 0, DUES_MOST);
    }

    private int renownNow(World world, int prophecy) {
        int[] law = lawOf(all.ruling(), RENOWN);
        if (law.length == 0) {
            return Integer.bitCount(world.prophecies.get(prophecy, FACTS_COLUMN));
        }
        tellProphecy(world, prophecy);
        return clamp(reckoner.run(law, world.so), 0, FAME_MOST);
    }

    private void tellProphecy(World world, int prophecy) {
        Rows prophecies = world.prophecies;
        int whose = prophecies.get(prophecy, WHOSE_COLUMN);
        reckoner.tell(DAY, world.today);
        reckoner.tell(MANY, Integer.bitCount(world.so));
        reckoner.tell(WHO, whose);
        reckoner.tell(FAME, world.prophets.get(whose, FAME_COLUMN));
        reckoner.tell(PURSE, world.prophets.get(whose, PURSE_COLUMN));
        reckoner.tell(FEE, prophecies.get(prophecy, FEE_COLUMN));
        reckoner.tell(FACTS, Integer.bitCount(prophecies.get(prophecy, FACTS_COLUMN)));
        reckoner.tell(DUE, prophecies.get(prophecy, DUE_COLUMN) - world.today);
    }

    private static int[] lawOf(Text text, int kind) {
        return text == null ? NO_LAW : text.law(kind);
    }

    // What would be: these change nothing but the scratch world.

    public int ahead(int n, int what, int which) {
        if (!within(n, 1, DAYS_MOST) || !mayLookAhead(what, which)) {
            return NONE;
        }
        scratch.copyFrom(all.now);
        for (int i = 0; i < n && scratch.today < DAY_MOST; i++) {
            passDay(scratch);
        }
        if (what == 0) {
            return scratch.so;
        }
        return what == 1 ? scratch.prophets.get(which, PURSE_COLUMN)
            : scratch.prophecies.get(which, HOW_COLUMN);
    }

    private boolean mayLookAhead(int what, int which) {
        return what == 0 || what == 1 && all.now.prophets.has(which)
            || what == 2 && all.now.prophecies.has(which);
    }

    public int until(int prophecy) {
        if (!all.now.isOpen(prophecy)) {
            return NONE;
        }
        scratch.copyFrom(all.now);
        for (int days = 1; days <= DAYS_MOST && scratch.today < DAY_MOST; days++) {
            passDay(scratch);
            if (!scratch.isOpen(prophecy)) {
                return days;
            }
        }
        return NONE;
    }

    public long odds(boolean all, int facts, int days, boolean low) {
        if (!mayReckonOdds(facts, days)) {
            return NONE;
        }
        return lowestTerm(chances(all, facts, days), allChances(facts, days), low);
    }

    public long fair(boolean all, int facts, int days, int dues, boolean low) {
        if (!mayReckonOdds(facts, days) || !within(dues, 0, FEE_MOST)) {
            return NONE;
        }
        long whole = allChances(facts, days);
        return lowestTerm(dues * (whole - chances(all, facts, days)), whole, low);
    }

    private boolean mayReckonOdds(int facts, int days) {
        return someFacts(facts) && within(days, 1, 4) && Integer.bitCount(facts & ~all.now.so) <= 3;
    }

    /** How many draws there are of the FACTS that aren't SO, each day's of a FACT being 10. */
    private long allChances(int facts, int days) {
        return power(10, days * Integer.bitCount(facts & ~all.now.so));
    }

    /** In how many of all draws any (or every) one of the FACTS is SO. */
    private long chances(boolean every, int facts, int days) {
        long come = 1;
        long miss = 1;
        for (int i = 0; i < all.facts.count; i++) {
            if ((facts & ~all.now.so & bit(i)) != 0) {
                long missing = power(10 - all.facts.get(i, TOLD_ODDS), days);
                come *= power(10, days) - missing;
                miss *= missing;
            }
        }
        if (every) {
            return come;
        }
        return (facts & all.now.so) != 0 ? allChances(facts, days) : allChances(facts, days) - miss;
    }

    private static long power(int base, int exponent) {
        long product = 1;
        for (int i = 0; i < exponent; i++) {
            product *= base;
        }
        return product;
    }

    private static long lowestTerm(long upper, long lower, boolean low) {
        long divisor = lower;
        long rest = upper;
        // Euclid's steps for numbers below 2^63 are fewer than 100.
        for (int i = 0; i < 100 && rest != 0; i++) {
            long next = divisor % rest;
            divisor = rest;
            rest = next;
        }
        long term = low ? lower : upper;
        return divisor == 0 ? term : term / divisor;
    }

    public int least(int prophecies, boolean cost) {
        if (!allOpen(prophecies)) {
            return NONE;
        }
        int best = everyFact() & ~all.now.so;
        for (int set = 0; set <= everyFact(); set++) {
            if ((set & all.now.so) == 0 && eachHolds(prophecies, all.now.so | set)
                && isLesser(set, best)) {
                best = set;
            }
        }
        return cost ? costOf(best) : best;
    }

    /** Whether a set comes ahead of another one: by its COST, then its size, then as a number. */
    private boolean isLesser(int set, int other) {
        int more = costOf(set) - costOf(other);
        if (more == 0) {
            more = Integer.bitCount(set) - Integer.bitCount(other);
        }
        return more < 0 || more == 0 && set < other;
    }

    private int costOf(int set) {
        int sum = 0;
        for (int i = 0; i < all.facts.count; i++) {
            sum += (set & bit(i)) == 0 ? 0 : all.facts.get(i, TOLD_COST);
        }
        return sum;
    }

    private boolean eachHolds(int prophecies, int so) {
        for (int i = 0; i < all.now.prophecies.count; i++) {
            if ((prophecies & bit(i)) != 0 && !all.now.wouldHold(i, so)) {
                return false;
            }
        }
        return true;
    }

    public int stop(int prophecies) {
        if (!allOpen(prophecies)) {
            return NONE;
        }
        int best = everyFact();
        for (int set = 0; set <= everyFact(); set++) {
            // A FACT more never undoes a PROPHECY: all others being SO is the hardest to stop.
            if (Integer.bitCount(set) < Integer.bitCount(best)
                && noneHolds(prophecies, everyFact() & ~set)) {
                best = set;
            }
        }
        return best;
    }

    private boolean noneHolds(int prophecies, int so) {
        for (int i = 0; i < all.now.prophecies.count; i++) {
            if ((prophecies & bit(i)) != 0 && all.now.wouldHold(i, so)) {
                return false;
            }
        }
        return true;
    }

    /** Whether it is a set of at least one PROPHECY, each of which is told and open. */
    private boolean allOpen(int prophecies) {
        int open = 0;
        for (int i = 0; i < all.now.prophecies.count; i++) {
            open |= all.now.isOpen(i) ? bit(i) : 0;
        }
        return prophecies > 0 && (prophecies & ~open) == 0;
    }

    // WORDS on offer.

    public int offer(boolean all, int facts, int fee, int dues) {
        Rows offers = this.all.offers;
        if (fee == NONE) {
            offers.clear();
            return 0;
        }
        if (!someFacts(facts) || !within(fee, 0, FEE_MOST) || !within(dues, 0, FEE_MOST)
            || offers.count >= TOLD_MOST) {
            return OTHER;
        }
        int number = offers.grow();
        offers.set(number, OFFER_ALL, all ? 1 : 0);
        offers.set(number, OFFER_FACTS, facts);
        offers.set(number, OFFER_FEE, fee);
        offers.set(number, OFFER_DUES, dues);
        return offers.count;
    }

    public int purse(int most, boolean fees) {
        if (!within(most, 0, PURSE_MOST)) {
            return NONE;
        }
        int best = 0;
        for (int set = 1; set < bit(all.offers.count); set++) {
            int gain = sumOf(set, OFFER_FEE);
            if (sumOf(set, OFFER_DUES) <= most + gain && gain > sumOf(best, OFFER_FEE)) {
                best = set;
            }
        }
        return fees ? sumOf(best, OFFER_FEE) : best;
    }

    public int worst(int words) {
        if (!within(words, 0, bit(all.offers.count) - 1)) {
            return NONE;
        }
        // In the world in which nothing is SO every WORD fails: no world is worse.
        return sumOf(words, OFFER_DUES);
    }

    private int sumOf(int words, int column) {
        int sum = 0;
        for (int i = 0; i < all.offers.count; i++) {
            sum += (words & bit(i)) == 0 ? 0 : all.offers.get(i, column);
        }
        return sum;
    }

    public int duel(boolean maker, boolean first) {
        if (all.offers.count == 0) {
            return OTHER;
        }
        int left = 0;
        for (int i = 0; i < all.offers.count; i++) {
            left |= all.offers.get(i, OFFER_FACTS);
        }
        if (!first) {
            return comesAbout(left, 0, maker, FACTS_MOST) ? 1 : 0;
        }
        for (int i = 0; i < FACTS_MOST; i++) {
            if ((left & bit(i)) != 0 && comesAboutBy(i, left, 0, maker, FACTS_MOST) == maker) {
                return i;
            }
        }
        return NONE;
    }

    /**
     * Whether each WORD comes about when the FACTS in left are still to be decided and those in so
     * are SO. Each decision costs one of turns, which ends at 0.
     */
    private boolean comesAbout(int left, int so, boolean makerNext, int turns) {
        if (turns <= 0 || everyWord(so)) {
            return everyWord(so);
        }
        if (!everyWord(so | left)) {
            return false;
        }
        for (int i = 0; i < FACTS_MOST; i++) {
            if ((left & bit(i)) != 0 && comesAboutBy(i, left, so, makerNext, turns) == makerNext) {
                return makerNext;
            }
        }
        return !makerNext;
    }

    private boolean comesAboutBy(int fact, int left, int so, boolean makerNext, int turns) {
        int then = makerNext ? so | bit(fact) : so;
        return comesAbout(left & ~bit(fact), then, !makerNext, turns - 1);
    }

    private boolean everyWord(int so) {
        for (int i = 0; i < all.offers.count; i++) {
            if (!met(all.offers.get(i, OFFER_ALL) == 1, all.offers.get(i, OFFER_FACTS), so)) {
                return false;
            }
        }
        return true;
    }

    // WORLDS.

    public int heard(int fact, boolean so) {
        if (fact == NONE) {
            all.heard.clear();
            return 0;
        }
        return all.facts.has(fact) ? addPair(all.heard, fact, so ? 1 : 0) : OTHER;
    }

    private static int addPair(Rows rows, int first, int second) {
        int number = rows.grow();
        if (number == NONE) {
            return OTHER;
        }
        rows.set(number, 0, first);
        rows.set(number, 1, second);
        return rows.count;
    }

    public int worlds(int prophecy, int what) {
        if (!all.now.prophecies.has(prophecy) || !within(what, 0, 1)) {
            return NONE;
        }
        int so = countWorlds(prophecy, true, 0, 0);
        return what == 1 ? so : so + countWorlds(prophecy, false, 0, 0);
    }

    /** Counts the WORLDS in which a PROPHECY is SO (or isn't) and the FACTS in mask are as in like. */
    private int countWorlds(int prophecy, boolean so, int mask, int like) {
        int count = 0;
        for (int world = 0; world <= everyFact(); world++) {
            if ((world & mask) == like && isHeardOf(world)
                && all.now.wouldHold(prophecy, world) == so) {
                count++;
            }
        }
        return count;
    }

    private boolean isHeardOf(int world) {
        for (int i = 0; i < all.heard.count; i++) {
            int so = (world & bit(all.heard.get(i, 0))) == 0 ? 0 : 1;
            if (so != all.heard.get(i, 1)) {
                return false;
            }
        }
        return true;
    }

    public int tells(int prophecy) {
        if (!all.now.prophecies.has(prophecy) || worlds(prophecy, 0) == 0) {
            return NONE;
        }
        int known = 0;
        for (int i = 0; i < all.heard.count; i++) {
            known |= bit(all.heard.get(i, 0));
        }
        int best = NONE;
        int fewest = bit(FACTS_MOST);
        for (int i = 0; i < all.facts.count; i++) {
            int wrong = (known & bit(i)) == 0 ? goWrong(prophecy, bit(i)) : fewest;
            if (wrong < fewest) {
                best = i;
                fewest = wrong;
            }
        }
        return best;
    }

    /** How many WORLDS go wrong, if one FACT alone is looked at. */
    private int goWrong(int prophecy, int fact) {
        int ifSo = Math.min(countWorlds(prophecy, true, fact, fact),
            countWorlds(prophecy, false, fact, fact));
        int ifNot = Math.min(countWorlds(prophecy, true, fact, 0),
            countWorlds(prophecy, false, fact, 0));
        return ifSo + ifNot;
    }

    // Whose law it was.

    public int owed(int prophecy, int dues) {
        if (prophecy == NONE) {
            all.owed.clear();
            return 0;
        }
        if (!all.now.prophecies.has(prophecy) || !within(dues, 0, DUES_MOST)) {
            return OTHER;
        }
        return addPair(all.owed, prophecy, dues);
    }

    public int whose() {
        int set = 0;
        for (int i = 0; i < all.textCount; i++) {
            set |= agrees(all.textAt(i)) ? bit(i) : 0;
        }
        return set;
    }

    private boolean agrees(Text text) {
        for (int i = 0; i < all.owed.count; i++) {
            int prophecy = all.owed.get(i, 0);
            if (all.now.prophecies.has(prophecy)
                && duesBy(text, all.now, prophecy) != all.owed.get(i, 1)) {
                return false;
            }
        }
        return true;
    }

    // PROPHETS and the BOOK.

    public int famous() {
        return firstOfMost(FAME_COLUMN);
    }

    public int richest() {
        return firstOfMost(PURSE_COLUMN);
    }

    private int firstOfMost(int column) {
        Rows prophets = all.now.prophets;
        int best = NONE;
        int most = NONE;
        for (int i = 0; i < prophets.count; i++) {
            if (prophets.get(i, column) > most) {
                best = i;
                most = prophets.get(i, column);
            }
        }
        return best;
    }

    public int ruined() {
        int set = 0;
        for (int i = 0; i < all.now.prophets.count; i++) {
            set |= all.now.prophets.get(i, RUINED_COLUMN) == 1 ? bit(i) : 0;
        }
        return set;
    }

    public int idle() {
        int set = 0;
        for (int i = 0; i < all.now.prophets.count; i++) {
            set |= all.now.openOf(i) == 0 ? bit(i) : 0;
        }
        return set;
    }

    public int ledger(int what) {
        if (!within(what, BOOK_TRUE, BOOK_SOLD)) {
            return OTHER;
        }
        int sum = 0;
        for (int i = 0; i < all.now.book.count; i++) {
            sum += all.now.written(i, 2) == what ? all.now.written(i, 3) : 0;
        }
        return sum;
    }

    // The IMAGE.

    public int image() {
        kept.copyFrom(all);
        return all.now.today;
    }

    public int back() {
        all.copyFrom(kept);
        return all.now.today;
    }

    public int about(int what) {
        switch (what) {
            case 0:
                return all.facts.count;
            case 1:
                return all.now.prophets.count;
            case 2:
                return all.textCount;
            case 3:
                return all.rule;
            case 4:
                return all.steps;
            case 5:
                return all.offers.count;
            case 6:
                return all.heard.count;
            case 7:
                return all.owed.count;
            case 8:
                return tapeLength;
            default:
                return OTHER;
        }
    }

    /** Whether it is a set of at least one FACT, all told. */
    private boolean someFacts(int facts) {
        return within(facts, 1, everyFact());
    }

    private int everyFact() {
        return bit(all.facts.count) - 1;
    }

    private static boolean met(boolean every, int facts, int so) {
        return every ? (facts & ~so) == 0 : (facts & so) != 0;
    }

    private static boolean within(int value, int low, int high) {
        return value >= low && value <= high;
    }

    private static int clamp(int value, int low, int high) {
        return Math.max(low, Math.min(high, value));
    }

    private static int bit(int number) {
        return 1 << number;
    }

    /** Rows of numbers that are told one by one, as many as there is room for. */
    private static final class Rows {
        private final int most;
        private final int width;
        private final int[] cells;
        private int count;

        Rows(int most, int width) {
            this.most = Math.max(0, most);
            this.width = Math.max(0, width);
            this.cells = new int[this.most * this.width];
        }

        boolean has(int row) {
            return row >= 0 && row < count;
        }

        int get(int row, int column) {
            int at = placeOf(row, column);
            return at >= 0 && at < cells.length ? cells[at] : 0;
        }

        void set(int row, int column, int value) {
            int at = placeOf(row, column);
            if (at >= 0 && at < cells.length) {
                cells[at] = value;
            }
        }

        private int placeOf(int row, int column) {
            return has(row) && column >= 0 && column < width ? row * width + column : NONE;
        }

        /** A row of zeros behind all others: its number; NONE if there is no room. */
        int grow() {
            if (count >= most) {
                return NONE;
            }
            int row = count;
            count++;
            for (int i = 0; i < width; i++) {
                set(row, i, 0);
            }
            return row;
        }

        /** As grow, but the eldest row makes room. */
        int growLatest() {
            if (count >= most && count > 0) {
                System.arraycopy(cells, width, cells, 0, cells.length - width);
                count--;
            }
            return grow();
        }

        void clear() {
            count = 0;
        }

        void copyFrom(Rows other) {
            takeRows(other);
            count = Math.min(most, other.count);
        }

        /** The rows that the other one has become as they are there; those behind them stay. */
        void takeRows(Rows other) {
            int used = Math.min(other.count * other.width, Math.min(other.cells.length, cells.length));
            System.arraycopy(other.cells, 0, cells, 0, used);
            count = Math.min(most, Math.max(count, other.count));
        }
    }

    /** All that a STEP can change. */
    private static final class World {
        private int today;
        private int x = 191;
        private int so;
        private final Rows prophets = new Rows(PROPHETS_MOST, 3);
        private final Rows prophecies = new Rows(PROPHECIES_MOST, 6);
        // Of each: DAY, and the rest as one number, since every STEP that is kept has a book.
        private final Rows book = new Rows(BOOK_MOST, 2);

        void copyFrom(World other) {
            prophets.copyFrom(other.prophets);
            copyButProphets(other);
        }

        /** As copyFrom, but PROPHETS that the other one doesn't know stay as they are. */
        void returnTo(World other) {
            prophets.takeRows(other.prophets);
            copyButProphets(other);
        }

        private void copyButProphets(World other) {
            today = other.today;
            x = other.x;
            so = other.so;
            prophecies.copyFrom(other.prophecies);
            book.copyFrom(other.book);
        }

        int draw() {
            int drawn = x;
            x = (x * 431 + 311) % 30553;
            return drawn;
        }

        boolean isSo(int fact) {
            return (so & bit(fact)) != 0;
        }

        boolean isOpen(int prophecy) {
            return prophecies.has(prophecy) && prophecies.get(prophecy, HOW_COLUMN) == STILL_OPEN;
        }

        int openOf(int prophet) {
            int open = 0;
            for (int i = 0; i < prophecies.count; i++) {
                if (isOpen(i) && prophecies.get(i, WHOSE_COLUMN) == prophet) {
                    open++;
                }
            }
            return open;
        }

        boolean holds(int prophecy) {
            return wouldHold(prophecy, so);
        }

        boolean wouldHold(int prophecy, int facts) {
            return met(prophecies.get(prophecy, ALL_COLUMN) == 1,
                prophecies.get(prophecy, FACTS_COLUMN), facts);
        }

        void gain(int prophet, int much) {
            int purse = prophets.get(prophet, PURSE_COLUMN) + much;
            prophets.set(prophet, PURSE_COLUMN, Math.min(PURSE_MOST, purse));
        }

        void lose(int prophet, int much) {
            prophets.set(prophet, PURSE_COLUMN, prophets.get(prophet, PURSE_COLUMN) - much);
        }

        void write(int what, int prophecy, int much) {
            int row = book.growLatest();
            book.set(row, 0, today);
            book.set(row, 1, (what * PROPHECIES_MOST + prophecy) * (DUES_MOST + 1) + much);
        }

        /** Of an entry of the BOOK: 0 DAY, 1 PROPHECY, 2 what, else how much. */
        int written(int i, int what) {
            int rest = book.get(i, 1);
            switch (what) {
                case 0:
                    return book.get(i, 0);
                case 1:
                    return rest / (DUES_MOST + 1) % PROPHECIES_MOST;
                case 2:
                    return rest / (DUES_MOST + 1) / PROPHECIES_MOST;
                default:
                    return rest % (DUES_MOST + 1);
            }
        }
    }

    /** All that an IMAGE keeps. */
    private static final class Market {
        private final World now = new World();
        private final World[] past = new World[STEPS_MOST];
        private int eldest;
        private int steps;
        private final Rows facts = new Rows(FACTS_MOST, 2);
        private final Rows offers = new Rows(TOLD_MOST, 4);
        private final Rows heard = new Rows(TOLD_MOST, 2);
        private final Rows owed = new Rows(TOLD_MOST, 2);
        private final Text[] texts = new Text[TEXTS_MOST];
        private int textCount;
        private int rule = NONE;

        Market() {
            for (int i = 0; i < past.length; i++) {
                past[i] = new World();
            }
        }

        /** Keeps the world as it is ahead of a STEP; the eldest one kept makes room. */
        void remember() {
            World kept = pastAt(eldest + steps);
            if (kept != null) {
                kept.copyFrom(now);
            }
            if (steps < STEPS_MOST) {
                steps++;
            } else {
                eldest = (eldest + 1) % STEPS_MOST;
            }
        }

        /** The latest STEP is taken back: how many are left; NONE if there was none. */
        int takeBack() {
            World kept = pastAt(eldest + steps - 1);
            if (steps == 0 || kept == null) {
                return NONE;
            }
            now.returnTo(kept);
            steps--;
            return steps;
        }

        private World pastAt(int number) {
            int at = number % STEPS_MOST;
            return at >= 0 && at < past.length ? past[at] : null;
        }

        int addText(Text text) {
            if (textCount < 0 || textCount >= texts.length) {
                return NONE;
            }
            texts[textCount] = text;
            textCount++;
            return textCount - 1;
        }

        Text textAt(int number) {
            return number >= 0 && number < textCount && number < texts.length ? texts[number] : null;
        }

        Text ruling() {
            return textAt(rule);
        }

        void copyFrom(Market other) {
            now.copyFrom(other.now);
            for (int i = 0; i < STEPS_MOST; i++) {
                World mine = pastAt(i);
                World its = other.pastAt(i);
                if (mine != null && its != null) {
                    mine.copyFrom(its);
                }
            }
            eldest = other.eldest;
            steps = other.steps;
            facts.copyFrom(other.facts);
            offers.copyFrom(other.offers);
            heard.copyFrom(other.heard);
            owed.copyFrom(other.owed);
            textCount = 0;
            for (int i = 0; i < other.textCount; i++) {
                addText(other.textAt(i));
            }
            rule = other.rule;
        }
    }

    /** A TEXT that was read: nothing in it changes afterwards, so images share it. */
    private static final class Text {
        // Of each CLAUSE: its first word and up to five numbers.
        private final Rows clauses = new Rows(CLAUSES_MOST, 6);
        private int[] comes = NO_LAW;
        private int[] dues = NO_LAW;
        private int[] renown = NO_LAW;

        /** The code of a law; it is empty where the TEXT has no such law. */
        int[] law(int kind) {
            if (kind == COMES) {
                return comes;
            }
            return kind == DUES ? dues : renown;
        }

        void putLaw(int kind, int[] code) {
            if (kind == COMES) {
                comes = code;
            } else if (kind == DUES) {
                dues = code;
            } else {
                renown = code;
            }
        }
    }

    /**
     * Reads a tape as a TEXT, by a descent along the grammar that stays at the first FAULT. Laws
     * become code with each operation behind what it takes: NUMBERS as they are, all else as the
     * TOKEN's number below 0.
     */
    private static final class Reader {
        private final int[] code = new int[TAPE_MOST];
        private int codeLength;
        private int[] bytes = NO_LAW;
        private int length;
        private int token;
        private int number;
        private int place;
        private int behind;
        private int wrong;
        private int clauseLaw;
        private Text draft = new Text();

        /** The TEXT; null if it has a FAULT, which wrong and place tell then. */
        Text read(int[] tape, int tapeLength) {
            bytes = tape;
            length = Math.min(tapeLength, tape.length);
            behind = 0;
            wrong = 0;
            draft = new Text();
            advance();
            // Each CLAUSE takes at least one byte.
            for (int i = 0; i < length && wrong == 0 && token != NO_MORE; i++) {
                readClause();
            }
            return wrong == 0 ? draft : null;
        }

        private void blame(int fault) {
            if (wrong == 0) {
                wrong = fault;
            }
        }

        private int byteAt(int at) {
            return at >= 0 && at < length && at < bytes.length ? bytes[at] : NONE;
        }

        private void advance() {
            int at = behind;
            while (at < length && (byteAt(at) == ' ' || byteAt(at) == '\n')) {
                at++;
            }
            place = at;
            behind = at + 1;
            if (at >= length) {
                token = NO_MORE;
            } else if (isLetter(byteAt(at))) {
                takeWord();
            } else if (isDigit(byteAt(at))) {
                takeNumber();
            } else {
                takeSign();
            }
        }

        private static boolean isLetter(int sign) {
            return within(sign, 'a', 'z') || within(sign, 'A', 'Z');
        }

        private static boolean isDigit(int sign) {
            return within(sign, '0', '9');
        }

        private void takeWord() {
            while (behind < length && isLetter(byteAt(behind))) {
                behind++;
            }
            token = STRANGE;
            int id = 1;
            int start = 0;
            for (int i = 0; i < WORDS.length() && token == STRANGE; i++) {
                if (WORDS.charAt(i) == ' ') {
                    if (i - start == behind - place && isLikeWord(start)) {
                        token = id;
                    }
                    id++;
                    start = i + 1;
                }
            }
        }

        private boolean isLikeWord(int start) {
            for (int i = 0; i < behind - place; i++) {
                int at = start + i;
                if (at >= WORDS.length() || WORDS.charAt(at) != byteAt(place + i)) {
                    return false;
                }
            }
            return true;
        }

        private void takeNumber() {
            token = NUMBER;
            number = byteAt(place) - '0';
            while (behind < length && isDigit(byteAt(behind))) {
                // One above the most tells that it is too much, however many digits come.
                number = Math.min(NUMBER_MOST + 1, number * 10 + byteAt(behind) - '0');
                behind++;
            }
        }

        private void takeSign() {
            int index = SIGNS.indexOf((char) byteAt(place));
            token = index < 0 ? STRANGE : LESS + index;
            if ((token == LESS || token == MORE) && byteAt(behind) == '=') {
                token = token == LESS ? AT_MOST : AT_LEAST;
                behind++;
            }
        }

        private void expect(int wanted) {
            if (wrong != 0) {
                return;
            }
            if (token == wanted) {
                advance();
            } else {
                blame(FAULT_PLACE);
            }
        }

        private int readNumber(int low, int high) {
            if (wrong != 0) {
                return 0;
            }
            int value = number;
            if (token != NUMBER) {
                blame(FAULT_PLACE);
            } else if (!within(value, low, high)) {
                blame(FAULT_NUMBER);
            } else {
                advance();
            }
            return value;
        }

        private void readClause() {
            int kind = token;
            boolean isLaw = within(kind, COMES, RENOWN);
            if (!within(kind, COMES, DAY)) {
                blame(FAULT_PLACE);
            } else if (isLaw && draft.law(kind).length > 0) {
                blame(FAULT_TWICE);
            } else if (draft.clauses.count >= CLAUSES_MOST) {
                blame(FAULT_CLAUSES);
            } else {
                int row = draft.clauses.grow();
                draft.clauses.set(row, 0, kind);
                advance();
                if (isLaw) {
                    readLaw(kind);
                } else {
                    readAct(kind, row);
                }
                expect(SEMICOLON);
            }
        }

        private void readLaw(int kind) {
            clauseLaw = kind;
            codeLength = 0;
            readSum(0);
            if (wrong == 0 && within(codeLength, 1, code.length)) {
                int[] copy = new int[codeLength];
                System.arraycopy(code, 0, copy, 0, codeLength);
                draft.putLaw(kind, copy);
            }
        }

        private void readAct(int kind, int row) {
            switch (kind) {
                case FACT:
                    readInto(row, 1, 0, ODDS_MOST);
                    expect(COST);
                    readInto(row, 2, 0, COST_MOST);
                    break;
                case PROPHET:
                    readInto(row, 1, 0, PURSE_MOST);
                    expect(FAME);
                    readInto(row, 2, 0, FAME_MOST);
                    break;
                case FORETELL:
                    readForetell(row);
                    break;
                case SELL:
                    readInto(row, 1, 0, PROPHECIES_MOST - 1);
                    expect(TO);
                    readInto(row, 2, 0, PROPHETS_MOST - 1);
                    expect(PRICE);
                    readInto(row, 3, 0, FEE_MOST);
                    break;
                case DAY:
                    readInto(row, 1, 1, DAYS_MOST);
                    break;
                default:
                    readInto(row, 1, 0, FACTS_MOST - 1);
                    expect(BY);
                    readInto(row, 2, 0, PROPHETS_MOST - 1);
                    break;
            }
        }

        private void readInto(int row, int column, int low, int high) {
            draft.clauses.set(row, column, readNumber(low, high));
        }

        private void readForetell(int row) {
            readInto(row, 1, 0, PROPHETS_MOST - 1);
            draft.clauses.set(row, 2, token == ALL ? 1 : 0);
            expect(token == ALL ? ALL : ANY);
            draft.clauses.set(row, 3, readFacts());
            expect(IN);
            readInto(row, 4, 1, DUE_IN_MOST);
            expect(FEE);
            readInto(row, 5, 0, FEE_MOST);
        }

        private int readFacts() {
            int set = bit(readNumber(0, FACTS_MOST - 1));
            for (int count = 1; wrong == 0 && token == COMMA && count <= FACTS_MOST; count++) {
                if (count == FACTS_MOST) {
                    blame(FAULT_FACTS);
                } else {
                    advance();
                    set |= bit(readNumber(0, FACTS_MOST - 1));
                }
            }
            return set;
        }

        // Below, open tells how many of ( not percent so if and - are open around.

        private void emit(int step) {
            if (wrong == 0 && codeLength >= 0 && codeLength < code.length) {
                code[codeLength] = step;
                codeLength++;
            }
        }

        private void readSum(int open) {
            readProduct(open);
            for (int i = 0; i < length && wrong == 0 && (token == PLUS || token == MINUS); i++) {
                int sign = token;
                advance();
                readProduct(open);
                emit(-sign);
            }
        }

        private void readProduct(int open) {
            readOne(open);
            for (int i = 0; i < length && wrong == 0 && (token == TIMES || token == OVER); i++) {
                int sign = token;
                advance();
                readOne(open);
                emit(-sign);
            }
        }

        private void readOne(int open) {
            if (wrong != 0) {
                return;
            }
            int first = token;
            if (first == NUMBER) {
                emit(readNumber(0, NUMBER_MOST));
            } else if (isName(first)) {
                readName(first);
            } else if (!opensOne(first)) {
                blame(FAULT_PLACE);
            } else if (open >= OPEN_MOST) {
                blame(FAULT_DEEP);
            } else {
                advance();
                readInside(first, open + 1);
            }
        }

        private static boolean opensOne(int id) {
            return id == OPEN || id == MINUS || id == PERCENT || id == SO || id == IF;
        }

        private static boolean isName(int id) {
            return id == DAY || id == FACT || id == COST || id == FAME || id == FEE
                || within(id, MANY, DUE);
        }

        private void readName(int name) {
            boolean ofComes = name == FACT || name == ODDS || name == COST;
            if (name != DAY && name != MANY && ofComes != (clauseLaw == COMES)) {
                blame(FAULT_NAME);
            } else {
                emit(-name);
                advance();
            }
        }

        private void readInside(int first, int open) {
            switch (first) {
                case OPEN:
                    readSum(open);
                    expect(CLOSE);
                    break;
                case MINUS:
                    readOne(open);
                    emit(-NEGATE);
                    break;
                case SO:
                    readOne(open);
                    emit(-SO);
                    break;
                case PERCENT:
                    readOne(open);
                    expect(OF);
                    readOne(open);
                    emit(-PERCENT);
                    break;
                default:
                    readIf(open);
                    break;
            }
        }

        /** Both SUMS become code: reckoning the one that isn't chosen changes nothing. */
        private void readIf(int open) {
            readEither(open);
            expect(THEN);
            readSum(open);
            expect(ELSE);
            readSum(open);
            expect(END);
            emit(-IF);
        }

        private void readEither(int open) {
            readBoth(open);
            for (int i = 0; i < length && wrong == 0 && token == OR; i++) {
                advance();
                readBoth(open);
                emit(-OR);
            }
        }

        private void readBoth(int open) {
            readAsk(open);
            for (int i = 0; i < length && wrong == 0 && token == AND; i++) {
                advance();
                readAsk(open);
                emit(-AND);
            }
        }

        private void readAsk(int open) {
            if (wrong != 0) {
                return;
            }
            if (token != NOT) {
                readComparison(open);
            } else if (open >= OPEN_MOST) {
                blame(FAULT_DEEP);
            } else {
                advance();
                readAsk(open + 1);
                emit(-NOT);
            }
        }

        private void readComparison(int open) {
            readSum(open);
            int sign = token;
            if (!within(sign, AT_MOST, UNLIKE)) {
                blame(FAULT_PLACE);
            }
            if (wrong == 0) {
                advance();
                readSum(open);
                emit(-sign);
            }
        }
    }

    /** Reckons what the code of a law comes to. */
    private static final class Reckoner {
        private final int[] names = new int[DUE + 1];
        private final int[] stack = new int[TAPE_MOST + 3];

        void tell(int name, int value) {
            if (name >= 0 && name < names.length) {
                names[name] = value;
            }
        }

        int run(int[] code, int so) {
            int height = 0;
            for (int i = 0; i < code.length; i++) {
                int step = code[i];
                int takes = takesOf(step);
                height = Math.max(0, height - takes);
                if (height + 2 < stack.length) {
                    stack[height] = takes == 0 ? simple(step)
                        : limit(value(-step, stack[height], stack[height + 1], stack[height + 2], so));
                    height++;
                }
            }
            return stack.length > 0 ? stack[0] : 0;
        }

        private static int takesOf(int step) {
            if (step >= 0 || -step <= DUE && !isOperation(-step)) {
                return 0;
            }
            if (step == -NEGATE || step == -SO || step == -NOT) {
                return 1;
            }
            return step == -IF ? 3 : 2;
        }

        private static boolean isOperation(int id) {
            return within(id, PERCENT, NOT);
        }

        private int simple(int step) {
            return step >= 0 ? step : -step < names.length ? names[-step] : 0;
        }

        private static int limit(long value) {
            return (int) Math.max(-VALUE_MOST, Math.min(VALUE_MOST, value));
        }

        private static long value(int operation, long a, long b, long c, int so) {
            switch (operation) {
                case PLUS:
                    return a + b;
                case MINUS:
                    return a - b;
                case TIMES:
                    return a * b;
                case OVER:
                    return b == 0 ? 0 : a / b;
                case PERCENT:
                    return b == 0 ? 0 : 100 * a / b;
                case NEGATE:
                    return -a;
                case SO:
                    return a >= 0 && a < FACTS_MOST ? so >> (int) a & 1 : 0;
                case IF:
                    return a != 0 ? b : c;
                default:
                    return isTrue(operation, a, b) ? 1 : 0;
            }
        }

        private static boolean isTrue(int operation, long a, long b) {
            switch (operation) {
                case LESS:
                    return a < b;
                case AT_MOST:
                    return a <= b;
                case MORE:
                    return a > b;
                case AT_LEAST:
                    return a >= b;
                case LIKE:
                    return a == b;
                case UNLIKE:
                    return a != b;
                case NOT:
                    return a == 0;
                case AND:
                    return a != 0 && b != 0;
                default:
                    return a != 0 || b != 0;
            }
        }
    }
}
