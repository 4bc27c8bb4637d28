import java.lang.reflect.InvocationTargetException;
import java.lang.reflect.Method;
import java.util.Map;
import java.util.Set;
import java.util.TreeMap;
import java.util.TreeSet;

/**
 * Runs the tests of a class one by one. A test is a static method without parameters whose name
 * begins with terms, part or promise and tells which sentence of the document it is for.
 */
final class Check {
    static final int NONE = ProphetLiable.NONE;
    static final int OTHER = -2;
    static final int LOW = Integer.MIN_VALUE;
    static final int HIGH = Integer.MAX_VALUE;

    private static final StringBuilder COMPLAINTS = new StringBuilder();

    private static int asked;
    private static int wrong;

    private Check() {
    }

    /** Runs all tests of a class and ends with 1 if one of them fails. */
    static void main(Class<?> tests) {
        Set<String> failed = failing(tests);
        System.out.print(COMPLAINTS);
        System.out.println(tests.getName() + ": " + testsOf(tests).size() + " tests, " + asked + " answers, "
            + (failed.isEmpty() ? "all as due" : "failed: " + failed));
        System.exit(failed.isEmpty() ? 0 : 1);
    }

    /** The names of the tests that fail. */
    static Set<String> failing(Class<?> tests) {
        Set<String> failed = new TreeSet<>();
        for (Map.Entry<String, Method> test : testsOf(tests).entrySet()) {
            int before = wrong;
            int length = COMPLAINTS.length();
            int askedBefore = asked;
            try {
                test.getValue().invoke(null);
            } catch (InvocationTargetException e) {
                complain("threw " + e.getCause());
            } catch (ReflectiveOperationException e) {
                complain("can't be run: " + e);
            }
            if (asked == askedBefore) {
                complain("asks nothing");
            }
            if (wrong != before) {
                failed.add(test.getKey());
                COMPLAINTS.insert(length, test.getKey() + ":\n");
            }
        }
        return failed;
    }

    private static Map<String, Method> testsOf(Class<?> tests) {
        Map<String, Method> map = new TreeMap<>();
        for (Method m : tests.getDeclaredMethods()) {
            if (m.getName().matches("(terms|part[IV]+|promise[0-9]+)[A-Z].*") && m.getParameterCount() == 0) {
                map.put(m.getName(), m);
            }
        }
        return map;
    }

    private static void complain(String what) {
        wrong++;
        COMPLAINTS.append("  ").append(what).append('\n');
    }

    // What is due.

    static void due(String call, long got, long want) {
        asked++;
        if (got != want) {
            complain(call + " answered " + got + ", due is " + want);
        }
    }

    static void due(String call, boolean got, boolean want) {
        asked++;
        if (got != want) {
            complain(call + " answered " + got + ", due is " + want);
        }
    }

    static void due(String call, String got, String want) {
        asked++;
        if (!got.equals(want)) {
            complain(call + ": it is\n    " + got + "\n  due is\n    " + want);
        }
    }

    // Markets.

    /** A market with FACTS of these ODDS that cost 1, 2, 3 and so on. */
    static ProphetLiable facts(int... odds) {
        ProphetLiable x = new ProphetLiable();
        for (int i = 0; i < odds.length; i++) {
            x.fact(odds[i], i + 1);
        }
        return x;
    }

    /** A market with so many FACTS that never come by themselves and cost nothing. */
    static ProphetLiable quiet(int facts) {
        ProphetLiable x = new ProphetLiable();
        for (int i = 0; i < facts; i++) {
            x.fact(0, 0);
        }
        return x;
    }

    /** Passes so many DAYS. */
    static void pass(ProphetLiable x, int days) {
        for (int left = days; left > 0; left -= 60) {
            x.day(Math.min(60, left));
        }
    }

    /** X behind a draw. */
    static int next(int x) {
        return (x * 431 + 311) % 30553;
    }

    // Texts.

    static void put(ProphetLiable x, String text) {
        x.end(0);
        for (int[] row : TextMaker.rows(text)) {
            x.feed(row[0], row[1], row[2], row[3], row[4]);
        }
        x.end(text.length());
    }

    static int read(ProphetLiable x, String text) {
        put(x, text);
        return x.text();
    }

    /** Reads a text that has no FAULT and makes it rule. */
    static void rule(ProphetLiable x, String text) {
        int number = read(x, text);
        due("text() of " + text, number >= 0, true);
        x.by(number);
    }

    /** What a new object finds in a text: 0 and NONE where there is no FAULT. */
    static void fault(String text, int kind, int place) {
        ProphetLiable x = new ProphetLiable();
        due("text() of " + text, read(x, text), kind == 0 ? 0 : NONE);
        due("fault(0) of " + text, x.fault(0), kind);
        due("fault(1) of " + text, x.fault(1), place);
    }

    static void fine(String text) {
        fault(text, 0, NONE);
    }

    /** The NUMBER at the mark ~ is one of those told from low to high alone. */
    static void range(String text, int low, int high) {
        int place = text.indexOf('~');
        fine(text.replace("~", "" + low));
        fine(text.replace("~", "" + high));
        fault(text.replace("~", "" + (high + 1)), 2, place);
        fault(text.replace("~", "99999999999"), 2, place);
        if (low > 0) {
            fault(text.replace("~", "" + (low - 1)), 2, place);
        }
    }

    /** What a SUM comes to as dues of a PROPHECY of FACTS 0 and 2 by PROPHET 1, FACT 1 being SO. */
    static int sum(String sum) {
        ProphetLiable x = quiet(3);
        x.prophet(50, 3);
        x.prophet(40, 7);
        x.bring(0, 1);
        x.day(2);
        x.foretell(1, true, 5, 6, 20);
        rule(x, "dues " + sum + ";");
        return x.word(0, 6);
    }

    /** Whether an EITHER holds in such a market. */
    static boolean holds(String either) {
        return sum("if " + either + " then 1 else 0 end") == 1;
    }

    // All that can be seen.

    /** All that a small market answers without being changed. */
    static String portrait(ProphetLiable x) {
        StringBuilder sb = new StringBuilder();
        for (int what = 0; what <= 8; what++) {
            sb.append(x.about(what)).append(' ');
        }
        sb.append("fault ").append(x.fault(0)).append(' ').append(x.fault(1)).append(' ');
        sb.append(world(x));
        sb.append("offers ").append(x.purse(9999, false)).append(' ');
        for (int i = 0; i < x.about(5); i++) {
            sb.append(x.worst(1 << i)).append(' ');
        }
        if (x.is(3) > 0) {
            sb.append("heard ").append(x.worlds(0, 0)).append(' ').append(x.tells(0)).append(' ');
        }
        return sb.append("whose ").append(x.whose()).toString();
    }

    /** All that a STEP can change. */
    static String world(ProphetLiable x) {
        StringBuilder sb = new StringBuilder("is ");
        for (int what = 0; what <= 3; what++) {
            sb.append(x.is(what)).append(' ');
        }
        for (int i = 0; i < x.about(0); i++) {
            sb.append("fact ");
            for (int what = 0; what <= 3; what++) {
                sb.append(x.ofFact(i, what)).append(' ');
            }
        }
        for (int i = 0; i < x.about(1); i++) {
            sb.append("prophet ");
            for (int what = 0; what <= 4; what++) {
                sb.append(x.of(i, what)).append(' ');
            }
        }
        for (int i = 0; i < x.is(3); i++) {
            sb.append("word ");
            for (int what = 0; what <= 7; what++) {
                sb.append(x.word(i, what)).append(' ');
            }
        }
        for (int i = 0; i < x.book(NONE, 0); i++) {
            sb.append("book ");
            for (int what = 0; what <= 3; what++) {
                sb.append(x.book(i, what)).append(' ');
            }
        }
        return sb.toString();
    }
}
