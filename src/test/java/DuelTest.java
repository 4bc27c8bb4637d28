import java.util.Random;

/** Compares duels over small words of 8 FACTS, which are hard to decide, with the Model. */
public final class DuelTest {
    public static void main(String[] args) {
        int duels = args.length > 0 ? Integer.parseInt(args[0]) : 3000;
        Random random = new Random(8);
        int[] seen = new int[10];
        int wrong = 0;
        for (int n = 0; n < duels && wrong < 5; n++) {
            ProphetLiable x = new ProphetLiable();
            Model m = new Model();
            for (int i = 0; i < 8; i++) {
                x.fact(0, 0);
                m.fact(0, 0);
            }
            StringBuilder words = new StringBuilder();
            int count = 1 + random.nextInt(8);
            int size = 2 + random.nextInt(3);
            for (int i = 0; i < count; i++) {
                int facts = 0;
                for (int k = 0; k < size; k++) {
                    facts |= 1 << random.nextInt(8);
                }
                boolean all = Integer.bitCount(facts) == 1 || random.nextInt(20) == 0;
                x.offer(all, facts, 0, 0);
                m.offer(all, facts, 0, 0);
                words.append(all ? " all " : " any ").append(Integer.toBinaryString(facts));
            }
            for (int kind = 0; kind < 4; kind++) {
                int got = x.duel(kind > 1, kind % 2 == 1);
                int due = m.duel(kind > 1, kind % 2 == 1);
                seen[got + 1]++;
                if (got != due) {
                    wrong++;
                    System.out.println("duel" + words + ", kind " + kind + ": " + got + ", due is " + due);
                }
            }
        }
        // Indices are answers and one: NONE, 0, 1 and a higher FACT have to be among them.
        for (int i = 0; i < 4; i++) {
            wrong += seen[i] == 0 ? 1 : 0;
        }
        System.out.println(duels + " duels, wrong: " + wrong);
        System.exit(wrong == 0 ? 0 : 1);
    }
}
