import java.math.BigInteger;
import java.util.ArrayList;
import java.util.HashMap;
import java.util.List;
import java.util.Map;

/**
 * The document once more, written for being plainly right and not for being small: every question
 * is answered by looking at all sets and all worlds, laws are trees. Tests compare the class with it.
 */
public final class Model {
    static final int NONE = -1;

    // ---- what there is

    static final class Prophet {
        final int toldPurse;
        final int toldFame;
        int purse;
        int fame;
        boolean ruined;

        Prophet(int purse, int fame) {
            toldPurse = purse;
            toldFame = fame;
            this.purse = purse;
            this.fame = fame;
        }

        Prophet copy() {
            Prophet p = new Prophet(toldPurse, toldFame);
            p.purse = purse;
            p.fame = fame;
            p.ruined = ruined;
            return p;
        }
    }

    static final class Prophecy {
        int whose;
        boolean all;
        int facts;
        int due;
        int fee;
        int how;

        Prophecy copy() {
            Prophecy p = new Prophecy();
            p.whose = whose;
            p.all = all;
            p.facts = facts;
            p.due = due;
            p.fee = fee;
            p.how = how;
            return p;
        }

        boolean isSo(int world) {
            return Model.isSo(all, facts, world);
        }
    }

    record Entry(int day, int prophecy, int what, int much) { }

    record Offer(boolean all, int facts, int fee, int dues) { }

    record Pair(int first, int second) { }

    static final class Step {
        int day;
        int x;
        int so;
        List<Prophet> prophets = new ArrayList<>();
        List<Prophecy> prophecies = new ArrayList<>();
        List<Entry> book = new ArrayList<>();
    }

    static final class State {
        List<Pair> facts = new ArrayList<>();
        Step now = new Step();
        List<Step> steps = new ArrayList<>();
        List<Script> texts = new ArrayList<>();
        int rule = NONE;
        List<Offer> offers = new ArrayList<>();
        List<Pair> heard = new ArrayList<>();
        List<Pair> owed = new ArrayList<>();

        State copy() {
            State s = new State();
            s.facts = new ArrayList<>(facts);
            s.now = copyOf(now);
            for (Step step : steps) {
                s.steps.add(copyOf(step));
            }
            s.texts = new ArrayList<>(texts);
            s.rule = rule;
            s.offers = new ArrayList<>(offers);
            s.heard = new ArrayList<>(heard);
            s.owed = new ArrayList<>(owed);
            return s;
        }
    }

    static Step copyOf(Step step) {
        Step s = new Step();
        s.day = step.day;
        s.x = step.x;
        s.so = step.so;
        for (Prophet p : step.prophets) {
            s.prophets.add(p.copy());
        }
        for (Prophecy p : step.prophecies) {
            s.prophecies.add(p.copy());
        }
        s.book.addAll(step.book);
        return s;
    }

    static boolean isSo(boolean all, int facts, int world) {
        int there = Integer.bitCount(facts & world);
        return all ? there == Integer.bitCount(facts) : there > 0;
    }

    private State s = new State();
    private State kept;
    private final List<Integer> tape = new ArrayList<>();
    private int fault = NONE;
    private int place = NONE;

    public Model() {
        s.now.x = 191;
        kept = s.copy();
    }

    // ---- telling

    public int fact(int odds, int cost) {
        if (odds < 0 || odds > 10 || cost < 0 || cost > 99 || s.facts.size() == 8) {
            return NONE;
        }
        s.facts.add(new Pair(odds, cost));
        return s.facts.size() - 1;
    }

    public int prophet(int purse, int fame) {
        if (purse < 0 || purse > 9999 || fame < 0 || fame > 99 || s.now.prophets.size() == 5) {
            return NONE;
        }
        s.now.prophets.add(new Prophet(purse, fame));
        return s.now.prophets.size() - 1;
    }

    public int feed(int a, int b, int c, int d, int e) {
        if (tape.size() > 280) {
            return NONE;
        }
        for (int word : new int[] {a, b, c, d, e}) {
            for (int i = 3; i >= 0; i--) {
                tape.add(word >>> 8 * i & 0xff);
            }
        }
        return tape.size();
    }

    public int end(int n) {
        if (n < 0 || n > tape.size()) {
            return NONE;
        }
        while (tape.size() > n) {
            tape.remove(tape.size() - 1);
        }
        return n;
    }

    public int text() {
        if (s.texts.size() == 4) {
            return NONE;
        }
        StringBuilder sb = new StringBuilder();
        for (int b : tape) {
            sb.append((char) b);
        }
        tape.clear();
        try {
            Script script = new Grammar(sb.toString()).script();
            fault = 0;
            place = NONE;
            s.texts.add(script);
            return s.texts.size() - 1;
        } catch (Fault f) {
            fault = f.kind;
            place = f.place;
            return NONE;
        }
    }

    public int fault(int what) {
        return what == 0 ? fault : what == 1 ? place : NONE;
    }

    public boolean by(int text) {
        if (text < NONE || text >= s.texts.size()) {
            return false;
        }
        s.rule = text;
        return true;
    }

    // ---- steps

    private int everyFact() {
        return (1 << s.facts.size()) - 1;
    }

    private boolean badFacts(int facts) {
        return facts < 1 || facts > everyFact();
    }

    private void remember() {
        s.steps.add(copyOf(s.now));
        if (s.steps.size() > 30) {
            s.steps.remove(0);
        }
    }

    private Prophet prophetAt(int i) {
        return i >= 0 && i < s.now.prophets.size() ? s.now.prophets.get(i) : null;
    }

    private Prophecy prophecyAt(int i) {
        return i >= 0 && i < s.now.prophecies.size() ? s.now.prophecies.get(i) : null;
    }

    public int foretell(int prophet, boolean all, int facts, int days, int fee) {
        return foretellIn(prophet, all, facts, days, fee, true);
    }

    private int foretellIn(int prophet, boolean all, int facts, int days, int fee, boolean step) {
        Prophet p = prophetAt(prophet);
        if (p == null || p.ruined || badFacts(facts) || days < 1 || days > 99 || fee < 0 || fee > 999
            || s.now.prophecies.size() == 12) {
            return NONE;
        }
        if (step) {
            remember();
        }
        Prophecy word = new Prophecy();
        word.whose = prophet;
        word.all = all;
        word.facts = facts;
        word.due = s.now.day + days;
        word.fee = fee;
        s.now.prophecies.add(word);
        p.purse = Math.min(9999, p.purse + fee);
        return s.now.prophecies.size() - 1;
    }

    public boolean bring(int prophet, int fact) {
        return turn(prophet, fact, true, true);
    }

    public boolean spoil(int prophet, int fact) {
        return turn(prophet, fact, false, true);
    }

    private boolean turn(int prophet, int fact, boolean so, boolean step) {
        Prophet p = prophetAt(prophet);
        if (p == null || fact < 0 || fact >= s.facts.size()) {
            return false;
        }
        boolean isNow = (s.now.so >> fact & 1) == 1;
        int cost = s.facts.get(fact).second;
        if (isNow == so || p.purse < cost) {
            return false;
        }
        if (step) {
            remember();
        }
        p.purse -= cost;
        s.now.so = so ? s.now.so + (1 << fact) : s.now.so - (1 << fact);
        return true;
    }

    public boolean sell(int prophecy, int to, int price) {
        Prophecy word = prophecyAt(prophecy);
        Prophet buyer = prophetAt(to);
        if (word == null || word.how != 0 || buyer == null || buyer.ruined || word.whose == to
            || price < 0 || price > 999 || prophetAt(word.whose).purse < price) {
            return false;
        }
        remember();
        prophetAt(word.whose).purse -= price;
        buyer.purse = Math.min(9999, buyer.purse + price);
        word.whose = to;
        write(s.now, prophecy, 2, price);
        return true;
    }

    private static void write(Step step, int prophecy, int what, int much) {
        step.book.add(new Entry(step.day, prophecy, what, much));
        if (step.book.size() > 30) {
            step.book.remove(0);
        }
    }

    public int day(int n) {
        if (n < 1 || n > 60 || s.now.day + n > 9999) {
            return NONE;
        }
        int ended = 0;
        for (int i = 0; i < n; i++) {
            remember();
            ended += pass(s.now);
        }
        return ended;
    }

    private static int draw(Step step) {
        int x = step.x;
        step.x = (int) ((x * 431L + 311L) % 30553L);
        return x;
    }

    private int pass(Step step) {
        for (int f = 0; f < s.facts.size(); f++) {
            if ((step.so >> f & 1) == 0) {
                int comes = comes(step, f);
                if (draw(step) % 10 < comes) {
                    step.so |= 1 << f;
                }
            }
        }
        int ended = 0;
        for (int i = 0; i < step.prophecies.size(); i++) {
            Prophecy word = step.prophecies.get(i);
            if (word.how != 0) {
                continue;
            }
            Prophet p = step.prophets.get(word.whose);
            if (word.isSo(step.so)) {
                int renown = renown(step, word);
                p.fame = Math.min(99, p.fame + renown);
                word.how = 1;
                write(step, i, 0, renown);
                ended++;
            } else if (step.day >= word.due) {
                int dues = dues(ruling(), step, word);
                int paid = Math.min(p.purse, dues);
                p.purse -= paid;
                p.ruined |= paid < dues;
                word.how = 2;
                write(step, i, 1, paid);
                ended++;
            }
        }
        step.day++;
        return ended;
    }

    public int played(int text) {
        if (text < 0 || text >= s.texts.size()) {
            return -2;
        }
        List<Clause> clauses = s.texts.get(text).clauses;
        for (int i = 0; i < clauses.size(); i++) {
            if (!play(clauses.get(i))) {
                return i;
            }
        }
        return NONE;
    }

    private boolean play(Clause c) {
        List<Integer> n = c.numbers;
        switch (c.kind) {
            case "fact":
                return fact(n.get(0), n.get(1)) >= 0;
            case "prophet":
                return prophet(n.get(0), n.get(1)) >= 0;
            case "any":
            case "all": {
                int facts = 0;
                for (int i = 1; i < n.size() - 2; i++) {
                    facts |= 1 << n.get(i);
                }
                return foretell(n.get(0), c.kind.equals("all"), facts, n.get(n.size() - 2),
                    n.get(n.size() - 1)) >= 0;
            }
            case "bring":
                return bring(n.get(1), n.get(0));
            case "spoil":
                return spoil(n.get(1), n.get(0));
            case "sell":
                return sell(n.get(0), n.get(1), n.get(2));
            case "day":
                for (int i = 0; i < n.get(0); i++) {
                    if (day(1) == NONE) {
                        return false;
                    }
                }
                return true;
            default:
                return true;
        }
    }

    public int years(int seed, int n) {
        if (seed < 0 || seed > 9999 || n < 1 || n > 40) {
            return NONE;
        }
        remember();
        s.now.x = seed * 2 + 191;
        for (int i = 0; i < n; i++) {
            int x = draw(s.now);
            int prophets = s.now.prophets.size();
            int facts = s.facts.size();
            boolean some = prophets > 0 && facts > 0;
            int k = x % 6;
            if (k == 0 || k == 1) {
                if (some) {
                    int set = 1 << x % facts | 1 << x / 6 % facts;
                    foretellIn(x % prophets, x % 4 == 0, set, 1 + x % 9, x % 50, false);
                }
            } else if (k == 2) {
                if (some) {
                    turn(x % prophets, x / 6 % facts, true, false);
                }
            } else if (k == 3) {
                if (some && x % 5 == 0) {
                    turn(x % prophets, x / 6 % facts, false, false);
                }
            } else if (s.now.day < 9999) {
                pass(s.now);
            }
        }
        return s.now.day;
    }

    public int undo() {
        if (s.steps.isEmpty()) {
            return NONE;
        }
        Step since = s.now;
        s.now = s.steps.remove(s.steps.size() - 1);
        for (int i = s.now.prophets.size(); i < since.prophets.size(); i++) {
            Prophet told = since.prophets.get(i);
            s.now.prophets.add(new Prophet(told.toldPurse, told.toldFame));
        }
        return s.steps.size();
    }

    // ---- laws

    private Script ruling() {
        return s.rule == NONE ? null : s.texts.get(s.rule);
    }

    private static int bounded(long value, int most) {
        return (int) Math.max(0, Math.min(most, value));
    }

    private Env env(Step step) {
        Env env = new Env(step.so);
        env.names.put("day", (long) step.day);
        env.names.put("many", (long) Integer.bitCount(step.so));
        return env;
    }

    private int comes(Step step, int fact) {
        Script script = ruling();
        Pair told = s.facts.get(fact);
        if (script == null || script.laws.get("comes") == null) {
            return told.first;
        }
        Env env = env(step);
        env.names.put("fact", (long) fact);
        env.names.put("odds", (long) told.first);
        env.names.put("cost", (long) told.second);
        return bounded(script.laws.get("comes").value(env), 10);
    }

    private Env env(Step step, Prophecy word) {
        Env env = env(step);
        Prophet p = step.prophets.get(word.whose);
        env.names.put("who", (long) word.whose);
        env.names.put("fame", (long) p.fame);
        env.names.put("purse", (long) p.purse);
        env.names.put("fee", (long) word.fee);
        env.names.put("facts", (long) Integer.bitCount(word.facts));
        env.names.put("due", (long) word.due - step.day);
        return env;
    }

    private int dues(Script script, Step step, Prophecy word) {
        if (script == null || script.laws.get("dues") == null) {
            return word.fee * 10;
        }
        return bounded(script.laws.get("dues").value(env(step, word)), 9999);
    }

    private int renown(Step step, Prophecy word) {
        Script script = ruling();
        if (script == null || script.laws.get("renown") == null) {
            return Integer.bitCount(word.facts);
        }
        return bounded(script.laws.get("renown").value(env(step, word)), 99);
    }

    // ---- what is

    public int of(int prophet, int what) {
        Prophet p = prophetAt(prophet);
        if (p == null) {
            return -2;
        }
        int open = 0;
        int owes = 0;
        for (Prophecy word : s.now.prophecies) {
            if (word.whose == prophet && word.how == 0) {
                open++;
                owes += dues(ruling(), s.now, word);
            }
        }
        switch (what) {
            case 0: return p.purse;
            case 1: return p.fame;
            case 2: return p.ruined ? 1 : 0;
            case 3: return open;
            case 4: return owes;
            default: return -2;
        }
    }

    public int ofFact(int fact, int what) {
        if (fact < 0 || fact >= s.facts.size()) {
            return -2;
        }
        switch (what) {
            case 0: return s.facts.get(fact).first;
            case 1: return s.facts.get(fact).second;
            case 2: return s.now.so >> fact & 1;
            case 3: return comes(s.now, fact);
            default: return -2;
        }
    }

    public int word(int prophecy, int what) {
        Prophecy word = prophecyAt(prophecy);
        if (word == null) {
            return -2;
        }
        switch (what) {
            case 0: return word.whose;
            case 1: return word.all ? 1 : 0;
            case 2: return word.facts;
            case 3: return word.due;
            case 4: return word.fee;
            case 5: return word.how;
            case 6: return dues(ruling(), s.now, word);
            case 7: return word.isSo(s.now.so) ? 1 : 0;
            default: return -2;
        }
    }

    public int is(int what) {
        switch (what) {
            case 0: return s.now.day;
            case 1: return s.now.x;
            case 2: return s.now.so;
            case 3: return s.now.prophecies.size();
            default: return -2;
        }
    }

    public int book(int i, int what) {
        if (i == NONE) {
            return s.now.book.size();
        }
        if (i < 0 || i >= s.now.book.size()) {
            return -2;
        }
        Entry e = s.now.book.get(i);
        switch (what) {
            case 0: return e.day;
            case 1: return e.prophecy;
            case 2: return e.what;
            case 3: return e.much;
            default: return -2;
        }
    }

    // ---- what would be

    public int ahead(int n, int what, int which) {
        if (n < 1 || n > 60 || what < 0 || what > 2 || what == 1 && prophetAt(which) == null
            || what == 2 && prophecyAt(which) == null) {
            return NONE;
        }
        Step then = copyOf(s.now);
        for (int i = 0; i < n; i++) {
            if (then.day < 9999) {
                pass(then);
            }
        }
        if (what == 0) {
            return then.so;
        }
        return what == 1 ? then.prophets.get(which).purse : then.prophecies.get(which).how;
    }

    public int until(int prophecy) {
        Prophecy word = prophecyAt(prophecy);
        if (word == null || word.how != 0) {
            return NONE;
        }
        Step then = copyOf(s.now);
        for (int d = 1; d <= 60; d++) {
            if (then.day < 9999) {
                pass(then);
                if (then.prophecies.get(prophecy).how != 0) {
                    return d;
                }
            }
        }
        return NONE;
    }

    /** Upper and lower of the ODDS, by all ways in which the FACTS that aren't SO come or don't. */
    private BigInteger[] chance(boolean all, int facts, int days) {
        BigInteger ten = BigInteger.TEN.pow(days);
        BigInteger upper = BigInteger.ZERO;
        BigInteger lower = BigInteger.ONE;
        int open = facts & ~s.now.so;
        for (int f = 0; f < 8; f++) {
            lower = (open >> f & 1) == 1 ? lower.multiply(ten) : lower;
        }
        for (int come = 0; come <= open; come++) {
            if ((come & ~open) != 0) {
                continue;
            }
            BigInteger ways = BigInteger.ONE;
            for (int f = 0; f < 8; f++) {
                if ((open >> f & 1) == 1) {
                    BigInteger not = BigInteger.valueOf(10 - s.facts.get(f).first).pow(days);
                    ways = ways.multiply((come >> f & 1) == 1 ? ten.subtract(not) : not);
                }
            }
            if (isSo(all, facts, come | s.now.so)) {
                upper = upper.add(ways);
            }
        }
        return new BigInteger[] {upper, lower};
    }

    private boolean badOdds(int facts, int days) {
        return badFacts(facts) || days < 1 || days > 4 || Integer.bitCount(facts & ~s.now.so) > 3;
    }

    private static long term(BigInteger upper, BigInteger lower, boolean low) {
        BigInteger gcd = upper.gcd(lower);
        return (low ? lower : upper).divide(gcd).longValueExact();
    }

    public long odds(boolean all, int facts, int days, boolean low) {
        if (badOdds(facts, days)) {
            return NONE;
        }
        BigInteger[] c = chance(all, facts, days);
        return term(c[0], c[1], low);
    }

    public long fair(boolean all, int facts, int days, int dues, boolean low) {
        if (badOdds(facts, days) || dues < 0 || dues > 999) {
            return NONE;
        }
        BigInteger[] c = chance(all, facts, days);
        return term(c[1].subtract(c[0]).multiply(BigInteger.valueOf(dues)), c[1], low);
    }

    private List<Prophecy> openOnes(int prophecies) {
        if (prophecies < 1 || prophecies >= 1 << s.now.prophecies.size()) {
            return null;
        }
        List<Prophecy> list = new ArrayList<>();
        for (int i = 0; i < 12; i++) {
            if ((prophecies >> i & 1) == 1) {
                if (s.now.prophecies.get(i).how != 0) {
                    return null;
                }
                list.add(s.now.prophecies.get(i));
            }
        }
        return list;
    }

    public int least(int prophecies, boolean cost) {
        List<Prophecy> words = openOnes(prophecies);
        if (words == null) {
            return NONE;
        }
        int best = NONE;
        int bestCost = 0;
        for (int size = 0; size <= 8; size++) {
            for (int set = 0; set <= everyFact(); set++) {
                if (Integer.bitCount(set) != size || (set & s.now.so) != 0) {
                    continue;
                }
                int sum = 0;
                for (int f = 0; f < s.facts.size(); f++) {
                    sum += (set >> f & 1) * s.facts.get(f).second;
                }
                boolean does = true;
                for (Prophecy word : words) {
                    does &= word.isSo(s.now.so | set);
                }
                if (does && (best == NONE || sum < bestCost)) {
                    best = set;
                    bestCost = sum;
                }
            }
        }
        return cost ? bestCost : best;
    }

    public int stop(int prophecies) {
        List<Prophecy> words = openOnes(prophecies);
        if (words == null) {
            return NONE;
        }
        for (int size = 0; size <= 8; size++) {
            for (int set = 0; set <= everyFact(); set++) {
                if (Integer.bitCount(set) == size && stops(words, set)) {
                    return set;
                }
            }
        }
        throw new IllegalStateException();
    }

    private boolean stops(List<Prophecy> words, int set) {
        for (int world = 0; world <= everyFact(); world++) {
            if ((world & set) == 0) {
                for (Prophecy word : words) {
                    if (word.isSo(world)) {
                        return false;
                    }
                }
            }
        }
        return true;
    }

    // ---- words on offer

    public int offer(boolean all, int facts, int fee, int dues) {
        if (fee == NONE) {
            s.offers.clear();
            return 0;
        }
        if (badFacts(facts) || fee < 0 || fee > 999 || dues < 0 || dues > 999 || s.offers.size() == 8) {
            return -2;
        }
        s.offers.add(new Offer(all, facts, fee, dues));
        return s.offers.size();
    }

    public int worst(int words) {
        if (words < 0 || words >= 1 << s.offers.size()) {
            return NONE;
        }
        int most = 0;
        for (int world = 0; world <= everyFact(); world++) {
            int sum = 0;
            for (int i = 0; i < s.offers.size(); i++) {
                Offer o = s.offers.get(i);
                if ((words >> i & 1) == 1 && !isSo(o.all, o.facts, world)) {
                    sum += o.dues;
                }
            }
            most = Math.max(most, sum);
        }
        return most;
    }

    public int purse(int most, boolean fees) {
        if (most < 0 || most > 9999) {
            return NONE;
        }
        int best = NONE;
        int bestFees = NONE;
        for (int set = 0; set < 1 << s.offers.size(); set++) {
            int sum = 0;
            for (int i = 0; i < s.offers.size(); i++) {
                sum += (set >> i & 1) * s.offers.get(i).fee;
            }
            if (sum > bestFees && worst(set) <= most + sum) {
                best = set;
                bestFees = sum;
            }
        }
        return fees ? bestFees : best;
    }

    public int duel(boolean maker, boolean first) {
        if (s.offers.isEmpty()) {
            return -2;
        }
        int facts = 0;
        for (Offer o : s.offers) {
            facts |= o.facts;
        }
        Map<Integer, Boolean> seen = new HashMap<>();
        if (!first) {
            return comesAbout(facts, 0, maker, seen) ? 1 : 0;
        }
        for (int f = 0; f < 8; f++) {
            if ((facts >> f & 1) == 1) {
                int so = maker ? 1 << f : 0;
                if (comesAbout(facts - (1 << f), so, !maker, seen) == maker) {
                    return f;
                }
            }
        }
        return NONE;
    }

    private boolean comesAbout(int left, int so, boolean maker, Map<Integer, Boolean> seen) {
        Boolean known = seen.get(left << 8 | so);
        if (known != null) {
            return known;
        }
        boolean result;
        if (left == 0) {
            result = true;
            for (Offer o : s.offers) {
                result &= isSo(o.all, o.facts, so);
            }
        } else {
            boolean some = false;
            boolean every = true;
            for (int f = 0; f < 8; f++) {
                if ((left >> f & 1) == 1) {
                    boolean r = comesAbout(left - (1 << f), maker ? so | 1 << f : so, !maker, seen);
                    some |= r;
                    every &= r;
                }
            }
            result = maker ? some : every;
        }
        seen.put(left << 8 | so, result);
        return result;
    }

    // ---- worlds

    public int heard(int fact, boolean so) {
        if (fact == NONE) {
            s.heard.clear();
            return 0;
        }
        if (fact < 0 || fact >= s.facts.size() || s.heard.size() == 8) {
            return -2;
        }
        s.heard.add(new Pair(fact, so ? 1 : 0));
        return s.heard.size();
    }

    private List<Integer> allWorlds() {
        List<Integer> list = new ArrayList<>();
        for (int world = 0; world <= everyFact(); world++) {
            boolean fits = true;
            for (Pair p : s.heard) {
                fits &= (world >> p.first & 1) == p.second;
            }
            if (fits) {
                list.add(world);
            }
        }
        return list;
    }

    public int worlds(int prophecy, int what) {
        Prophecy word = prophecyAt(prophecy);
        if (word == null || what < 0 || what > 1) {
            return NONE;
        }
        int count = 0;
        for (int world : allWorlds()) {
            count += what == 0 || word.isSo(world) ? 1 : 0;
        }
        return count;
    }

    public int tells(int prophecy) {
        Prophecy word = prophecyAt(prophecy);
        if (word == null || allWorlds().isEmpty()) {
            return NONE;
        }
        int best = NONE;
        int fewest = Integer.MAX_VALUE;
        for (int f = 0; f < s.facts.size(); f++) {
            boolean known = false;
            for (Pair p : s.heard) {
                known |= p.first == f;
            }
            if (known) {
                continue;
            }
            int[][] count = new int[2][2];
            for (int world : allWorlds()) {
                count[world >> f & 1][word.isSo(world) ? 1 : 0]++;
            }
            int wrong = Math.min(count[0][0], count[0][1]) + Math.min(count[1][0], count[1][1]);
            if (wrong < fewest) {
                fewest = wrong;
                best = f;
            }
        }
        return best;
    }

    public int owed(int prophecy, int dues) {
        if (prophecy == NONE) {
            s.owed.clear();
            return 0;
        }
        if (prophecyAt(prophecy) == null || dues < 0 || dues > 9999 || s.owed.size() == 8) {
            return -2;
        }
        s.owed.add(new Pair(prophecy, dues));
        return s.owed.size();
    }

    public int whose() {
        int set = 0;
        for (int t = 0; t < s.texts.size(); t++) {
            boolean fits = true;
            for (Pair p : s.owed) {
                Prophecy word = prophecyAt(p.first);
                fits &= word == null || dues(s.texts.get(t), s.now, word) == p.second;
            }
            set |= fits ? 1 << t : 0;
        }
        return set;
    }

    // ---- prophets, the book, the image

    public int famous() {
        int best = NONE;
        for (int i = 0; i < s.now.prophets.size(); i++) {
            if (best == NONE || prophetAt(i).fame > prophetAt(best).fame) {
                best = i;
            }
        }
        return best;
    }

    public int richest() {
        int best = NONE;
        for (int i = 0; i < s.now.prophets.size(); i++) {
            if (best == NONE || prophetAt(i).purse > prophetAt(best).purse) {
                best = i;
            }
        }
        return best;
    }

    public int ruined() {
        int set = 0;
        for (int i = 0; i < s.now.prophets.size(); i++) {
            set += prophetAt(i).ruined ? 1 << i : 0;
        }
        return set;
    }

    public int idle() {
        int set = (1 << s.now.prophets.size()) - 1;
        for (Prophecy word : s.now.prophecies) {
            if (word.how == 0) {
                set &= ~(1 << word.whose);
            }
        }
        return set;
    }

    public int ledger(int what) {
        if (what < 0 || what > 2) {
            return -2;
        }
        int sum = 0;
        for (Entry e : s.now.book) {
            sum += e.what == what ? e.much : 0;
        }
        return sum;
    }

    public int image() {
        kept = s.copy();
        return s.now.day;
    }

    public int back() {
        s = kept.copy();
        return s.now.day;
    }

    public int about(int what) {
        switch (what) {
            case 0: return s.facts.size();
            case 1: return s.now.prophets.size();
            case 2: return s.texts.size();
            case 3: return s.rule;
            case 4: return s.steps.size();
            case 5: return s.offers.size();
            case 6: return s.heard.size();
            case 7: return s.owed.size();
            case 8: return tape.size();
            default: return -2;
        }
    }

    // ---- texts

    static final class Env {
        final Map<String, Long> names = new HashMap<>();
        final int so;

        Env(int so) {
            this.so = so;
        }
    }

    interface Node {
        long value(Env env);
    }

    static final class Script {
        final List<Clause> clauses = new ArrayList<>();
        final Map<String, Node> laws = new HashMap<>();
    }

    record Clause(String kind, List<Integer> numbers) { }

    static final class Fault extends RuntimeException {
        private static final long serialVersionUID = 1L;
        final int kind;
        final int place;

        Fault(int kind, int place) {
            this.kind = kind;
            this.place = place;
        }
    }

    record Token(String sign, int place) { }

    static final class Grammar {
        private final List<Token> tokens = new ArrayList<>();
        private int at;
        private int open;
        private String law;

        Grammar(String text) {
            int i = 0;
            while (i < text.length()) {
                int j = i + 1;
                char c = text.charAt(i);
                if (c == ' ' || c == 10) {
                    i++;
                    continue;
                }
                String kind = kindOf(c);
                if (kind.equals("letter") || kind.equals("digit")) {
                    while (j < text.length() && kindOf(text.charAt(j)).equals(kind)) {
                        j++;
                    }
                } else if ((c == '<' || c == '>') && text.startsWith("=", j)) {
                    j++;
                }
                tokens.add(new Token(text.substring(i, j), i));
                i = j;
            }
            tokens.add(new Token("", text.length()));
        }

        private static String kindOf(char c) {
            if (c >= 'a' && c <= 'z' || c >= 'A' && c <= 'Z') {
                return "letter";
            }
            return c >= '0' && c <= '9' ? "digit" : "other";
        }

        private String peek() {
            return tokens.get(at).sign;
        }

        private Fault wrong(int kind) {
            return new Fault(kind, tokens.get(at).place);
        }

        private boolean is(String... signs) {
            return List.of(signs).contains(peek());
        }

        private String take(String... signs) {
            if (!is(signs)) {
                throw wrong(1);
            }
            at++;
            return tokens.get(at - 1).sign;
        }

        private int number(int low, int high) {
            if (!peek().matches("[0-9]+")) {
                throw wrong(1);
            }
            BigInteger n = new BigInteger(peek());
            if (n.compareTo(BigInteger.valueOf(low)) < 0 || n.compareTo(BigInteger.valueOf(high)) > 0) {
                throw wrong(2);
            }
            at++;
            return n.intValueExact();
        }

        Script script() {
            Script script = new Script();
            while (!peek().isEmpty()) {
                if (!is("comes", "dues", "renown", "fact", "prophet", "foretell", "bring", "spoil", "sell", "day")) {
                    throw wrong(1);
                }
                if (script.laws.containsKey(peek())) {
                    throw wrong(4);
                }
                if (script.clauses.size() == 24) {
                    throw wrong(6);
                }
                clause(script);
                take(";");
            }
            return script;
        }

        private void clause(Script script) {
            String kind = peek();
            at++;
            List<Integer> n = new ArrayList<>();
            switch (kind) {
                case "comes":
                case "dues":
                case "renown":
                    law = kind;
                    script.laws.put(kind, sum());
                    break;
                case "fact":
                    n.add(number(0, 10));
                    take("cost");
                    n.add(number(0, 99));
                    break;
                case "prophet":
                    n.add(number(0, 9999));
                    take("fame");
                    n.add(number(0, 99));
                    break;
                case "foretell":
                    n.add(number(0, 4));
                    kind = take("any", "all");
                    n.add(number(0, 7));
                    while (is(",")) {
                        if (n.size() == 9) {
                            throw wrong(7);
                        }
                        take(",");
                        n.add(number(0, 7));
                    }
                    take("in");
                    n.add(number(1, 99));
                    take("fee");
                    n.add(number(0, 999));
                    break;
                case "bring":
                case "spoil":
                    n.add(number(0, 7));
                    take("by");
                    n.add(number(0, 4));
                    break;
                case "sell":
                    n.add(number(0, 11));
                    take("to");
                    n.add(number(0, 4));
                    take("price");
                    n.add(number(0, 999));
                    break;
                default:
                    n.add(number(1, 60));
                    break;
            }
            script.clauses.add(new Clause(kind, n));
        }

        private static long near(long v) {
            return v > 1000000 ? 1000000 : v < -1000000 ? -1000000 : v;
        }

        private Node sum() {
            Node left = product();
            while (is("+", "-")) {
                boolean plus = take("+", "-").equals("+");
                Node a = left;
                Node b = product();
                left = env -> near(plus ? a.value(env) + b.value(env) : a.value(env) - b.value(env));
            }
            return left;
        }

        private Node product() {
            Node left = one();
            while (is("*", "/")) {
                boolean times = take("*", "/").equals("*");
                Node a = left;
                Node b = one();
                left = env -> {
                    long y = b.value(env);
                    return near(times ? a.value(env) * y : y == 0 ? 0 : a.value(env) / y);
                };
            }
            return left;
        }

        private void goIn() {
            if (open == 8) {
                throw wrong(3);
            }
            open++;
            at++;
        }

        private Node one() {
            if (is("day", "many", "fact", "odds", "cost", "who", "fame", "purse", "fee", "facts", "due")) {
                boolean ofAll = is("day", "many");
                boolean ofComes = is("fact", "odds", "cost");
                if (!ofAll && ofComes != law.equals("comes")) {
                    throw wrong(5);
                }
                String name = peek();
                at++;
                return env -> env.names.get(name);
            }
            if (!is("(", "-", "percent", "so", "if")) {
                long n = number(0, 9999);
                return env -> n;
            }
            String first = peek();
            goIn();
            Node result = inside(first);
            open--;
            return result;
        }

        private Node inside(String first) {
            switch (first) {
                case "(": {
                    Node a = sum();
                    take(")");
                    return a;
                }
                case "-": {
                    Node a = one();
                    return env -> near(-a.value(env));
                }
                case "so": {
                    Node a = one();
                    return env -> {
                        long f = a.value(env);
                        return f >= 0 && f <= 7 ? env.so >> f & 1 : 0;
                    };
                }
                case "percent": {
                    Node a = one();
                    take("of");
                    Node b = one();
                    return env -> b.value(env) == 0 ? 0 : near(100 * a.value(env) / b.value(env));
                }
                default: {
                    Node c = either();
                    take("then");
                    Node a = sum();
                    take("else");
                    Node b = sum();
                    take("end");
                    return env -> c.value(env) == 1 ? a.value(env) : b.value(env);
                }
            }
        }

        private Node either() {
            Node left = both();
            while (is("or")) {
                take("or");
                Node a = left;
                Node b = both();
                left = env -> Math.max(a.value(env), b.value(env));
            }
            return left;
        }

        private Node both() {
            Node left = ask();
            while (is("and")) {
                take("and");
                Node a = left;
                Node b = ask();
                left = env -> Math.min(a.value(env), b.value(env));
            }
            return left;
        }

        private Node ask() {
            if (is("not")) {
                goIn();
                Node a = ask();
                open--;
                return env -> 1 - a.value(env);
            }
            Node a = sum();
            String sign = take("<", "<=", ">", ">=", "=", "#");
            Node b = sum();
            return env -> {
                int order = Long.compare(a.value(env), b.value(env));
                boolean yes = switch (sign) {
                    case "<" -> order < 0;
                    case "<=" -> order <= 0;
                    case ">" -> order > 0;
                    case ">=" -> order >= 0;
                    case "=" -> order == 0;
                    default -> order != 0;
                };
                return yes ? 1 : 0;
            };
        }
    }
}
