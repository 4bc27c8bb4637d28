import java.util.Random;

/** Compares how the class and the Model read and reckon texts drawn by fixed seeds. */
public final class ReadingTest {
    private static final int[] SEEN = new int[8];

    public static void main(String[] args) {
        int texts = args.length > 0 ? Integer.parseInt(args[0]) : 20000;
        int wrong = 0;
        for (int seed = 1; seed <= texts && wrong < 5; seed++) {
            String text = new TextMaker(new Random(seed)).text();
            String told = compare(text, new Random(-seed));
            if (told != null) {
                wrong++;
                System.out.println("text " + seed + ": " + told + "\n" + text);
            }
        }
        StringBuilder kinds = new StringBuilder();
        for (int i = 0; i < SEEN.length; i++) {
            kinds.append(" ").append(SEEN[i]);
            if (SEEN[i] == 0) {
                wrong++;
            }
        }
        System.out.println(texts + " texts, by their FAULTS:" + kinds + "; wrong: " + wrong);
        System.exit(wrong == 0 ? 0 : 1);
    }

    private static String compare(String text, Random random) {
        ProphetLiable x = new ProphetLiable();
        Model m = new Model();
        for (int[] row : TextMaker.rows(text)) {
            x.feed(row[0], row[1], row[2], row[3], row[4]);
            m.feed(row[0], row[1], row[2], row[3], row[4]);
        }
        x.end(text.length());
        m.end(text.length());
        int got = x.text();
        if (got != m.text() || x.fault(0) != m.fault(0) || x.fault(1) != m.fault(1)) {
            return "FAULT " + x.fault(0) + " at " + x.fault(1) + ", due is " + m.fault(0) + " at " + m.fault(1);
        }
        SEEN[x.fault(0)]++;
        if (got != 0) {
            return null;
        }
        for (int i = 0; i < 4; i++) {
            int odds = random.nextInt(11);
            int cost = random.nextInt(20);
            x.fact(odds, cost);
            m.fact(odds, cost);
        }
        x.prophet(300, 40);
        m.prophet(300, 40);
        x.by(0);
        m.by(0);
        for (int day = 0; day < 8; day++) {
            int set = 1 + random.nextInt(15);
            int fee = random.nextInt(30);
            x.foretell(0, day % 2 == 0, set, 1 + day % 3, fee);
            m.foretell(0, day % 2 == 0, set, 1 + day % 3, fee);
            for (int i = 0; i < 4; i++) {
                if (x.ofFact(i, 3) != m.ofFact(i, 3)) {
                    return "comes " + x.ofFact(i, 3) + ", due is " + m.ofFact(i, 3);
                }
            }
            for (int i = 0; i <= day; i++) {
                if (x.word(i, 6) != m.word(i, 6)) {
                    return "dues " + x.word(i, 6) + ", due are " + m.word(i, 6);
                }
            }
            x.day(1);
            m.day(1);
            if (x.ledger(0) != m.ledger(0) || x.is(1) != m.is(1)) {
                return "renown " + x.ledger(0) + ", due is " + m.ledger(0);
            }
        }
        return x.played(0) == m.played(0) && x.is(0) == m.is(0) ? null : "played(0)";
    }
}
