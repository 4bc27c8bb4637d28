import java.lang.reflect.Method;
import java.util.ArrayList;
import java.util.Arrays;
import java.util.HashMap;
import java.util.List;
import java.util.Map;
import java.util.Random;

/** Compares the class with the Model on runs of calls drawn by fixed seeds. */
public final class ModelTest {
    private static final String[] CALLS = {
        "fact", "prophet", "end", "text", "fault", "by", "foretell", "foretell", "foretell", "bring", "spoil",
        "sell", "day", "day", "played", "years", "undo", "of", "ofFact", "word", "is", "book", "ahead", "until",
        "odds", "least", "stop", "offer", "purse", "worst", "heard", "worlds", "tells", "duel", "fair", "owed",
        "whose", "famous", "richest", "ruined", "idle", "ledger", "image", "back", "about", "TEXT", "DAYS"};

    private static final Map<String, Method> CLASS = methodsOf(ProphetLiable.class);
    private static final Map<String, Method> MODEL = methodsOf(Model.class);

    private final Random random;
    private final TextMaker maker;
    private final List<String> log = new ArrayList<>();
    private ProphetLiable object = new ProphetLiable();
    private Model model = new Model();
    private boolean same = true;

    private ModelTest(long seed) {
        random = new Random(seed);
        maker = new TextMaker(random);
    }

    private static Map<String, Method> methodsOf(Class<?> type) {
        Map<String, Method> map = new HashMap<>();
        for (Method m : type.getDeclaredMethods()) {
            if (java.lang.reflect.Modifier.isPublic(m.getModifiers())) {
                map.put(m.getName(), m);
            }
        }
        return map;
    }

    public static void main(String[] args) {
        int runs = args.length > 0 ? Integer.parseInt(args[0]) : 1500;
        int first = args.length > 1 ? Integer.parseInt(args[1]) : 1;
        int wrong = 0;
        for (int seed = first; seed < first + runs && wrong < 3; seed++) {
            ModelTest test = new ModelTest(seed);
            test.run();
            if (!test.same) {
                wrong++;
                System.out.println("seed " + seed + ":");
                List<String> log = test.log;
                log.subList(Math.max(0, log.size() - 400), log.size()).forEach(line -> System.out.println("  " + line));
            }
        }
        System.out.println(wrong == 0 ? runs + " runs are as the model" : wrong + " runs are not as the model");
        System.exit(wrong == 0 ? 0 : 1);
    }

    private int pick(int n) {
        return random.nextInt(n);
    }

    private boolean chance(int percent) {
        return pick(100) < percent;
    }

    /** A number from low to high, now and then one outside. */
    private int near(int low, int high) {
        if (chance(4)) {
            int[] odd = {low - 1, high + 1, Integer.MIN_VALUE, Integer.MAX_VALUE, -1, -2, 0, 1 << 30};
            return odd[pick(odd.length)];
        }
        return low + pick(high - low + 1);
    }

    private void run() {
        int told = pick(4);
        for (int i = 0; i < told * 2; i++) {
            call("fact", chance(40) ? near(0, 10) : pick(4), chance(50) ? pick(8) : near(0, 99));
        }
        for (int i = 0; i < told + 1; i++) {
            call("prophet", chance(50) ? pick(300) : near(0, 9999), near(0, 99));
        }
        // In a quiet run few DAYS pass, so that PROPHECIES stay open for the questions about them.
        boolean quiet = chance(50);
        int calls = 100 + pick(200);
        for (int i = 0; i < calls && same; i++) {
            String name = CALLS[pick(CALLS.length)];
            boolean passes = List.of("day", "played", "years", "DAYS").contains(name);
            if (!quiet || !passes || chance(8)) {
                draw(name);
            }
            if (i % 25 == 24) {
                portrait();
            }
        }
        portrait();
    }

    private void draw(String name) {
        int facts = Math.max(1, model.about(0));
        int set = 1 + pick((1 << facts) - 1);
        boolean all = chance(50);
        boolean low = chance(50);
        switch (name) {
            case "TEXT":
                putText();
                break;
            case "DAYS":
                if (chance(3)) {
                    for (int i = 0; i < 170 && same; i++) {
                        call("day", model.is(0) > 9900 ? 17 : 60);
                    }
                }
                break;
            case "fact": call(name, near(0, 10), near(0, 99)); break;
            case "prophet": call(name, near(0, 9999), near(0, 99)); break;
            case "end": call(name, near(0, 20)); break;
            case "text": case "undo": case "whose": case "famous": case "richest": case "ruined": case "idle":
            case "image":
                call(name);
                break;
            case "back":
                if (chance(30)) {
                    call(name);
                }
                break;
            case "fault": call(name, near(0, 1)); break;
            case "by": call(name, near(-1, 3)); break;
            case "foretell":
                call(name, near(0, 3), all, chance(4) ? near(0, 300) : set, chance(80) ? near(1, 9) : near(1, 99),
                    chance(80) ? pick(40) : near(0, 999));
                break;
            case "bring": case "spoil": call(name, near(0, 3), near(0, facts - 1)); break;
            case "sell": {
                int words = Math.max(1, model.is(3));
                call(name, near(0, words - 1), near(0, Math.max(0, model.about(1) - 1)),
                    chance(80) ? pick(40) : near(0, 999));
                break;
            }
            case "day": call(name, chance(80) ? near(1, 3) : near(1, 60)); break;
            case "played": call(name, near(0, 3)); break;
            case "years": call(name, near(0, 9999), near(1, 40)); break;
            case "of": call(name, near(0, 4), near(0, 4)); break;
            case "ofFact": call(name, near(0, 7), near(0, 3)); break;
            case "word": call(name, near(0, 11), near(0, 7)); break;
            case "is": call(name, near(0, 3)); break;
            case "book": call(name, near(-1, 29), near(0, 3)); break;
            case "ahead": call(name, near(1, 60), near(0, 2), near(0, 8)); break;
            case "until": call(name, near(0, Math.max(0, model.is(3) - 1))); break;
            case "odds": call(name, all, chance(5) ? near(0, 300) : set & set >> 1 & 1 | pick(8) | 1 << pick(facts), near(1, 4), low); break;
            case "fair": call(name, all, chance(5) ? near(0, 300) : pick(8) | 1 << pick(facts), near(1, 4), near(0, 999), low); break;
            case "least": case "stop": {
                int words = openWords();
                int ask = chance(10) ? near(0, 4095) : words & pick(4096);
                if (name.equals("least")) {
                    call(name, ask, low);
                } else {
                    call(name, ask);
                }
                break;
            }
            case "offer":
                call(name, chance(25), chance(5) ? near(0, 300) : set, chance(2) ? -1 : near(0, 999), near(0, 999));
                break;
            case "purse": call(name, chance(60) ? near(0, 2000) : near(0, 9999), low); break;
            case "worst": call(name, pick(1 << Math.max(1, model.about(5))) + (chance(3) ? 256 : 0)); break;
            case "heard": call(name, chance(10) ? -1 : near(0, facts - 1), all); break;
            case "worlds": call(name, near(0, 11), near(0, 1)); break;
            case "tells": call(name, near(0, 11)); break;
            case "duel": call(name, all, low); break;
            case "owed": drawOwed(); break;
            case "ledger": call(name, near(0, 2)); break;
            default: call("about", near(0, 8)); break;
        }
    }

    private int openWords() {
        int set = 0;
        for (int i = 0; i < model.is(3); i++) {
            set |= model.word(i, 5) == 0 ? 1 << i : 0;
        }
        return set;
    }

    private void drawOwed() {
        if (chance(20)) {
            call("owed", -1, 0);
            return;
        }
        int prophecy = near(0, Math.max(0, model.is(3) - 1));
        int dues = chance(70) ? model.word(prophecy, 6) : near(0, 9999);
        call("owed", prophecy, dues);
    }

    private void putText() {
        if (chance(80)) {
            call("end", 0);
        }
        String text = maker.text();
        int before = model.about(8);
        for (int[] row : TextMaker.rows(text)) {
            call("feed", row[0], row[1], row[2], row[3], row[4]);
        }
        if (chance(95)) {
            call("end", before + text.length());
        }
        log.add("text is: " + text);
        call("text");
        call("fault", 0);
        call("fault", 1);
        if (chance(60)) {
            call("by", model.about(2) - 1);
        }
        if (model.about(2) == 4 && chance(50)) {
            call("back");
        }
    }

    private void portrait() {
        for (int what = -1; what <= 9; what++) {
            call("about", what);
        }
        for (int what = -1; what <= 4; what++) {
            call("is", what);
        }
        for (int i = 0; i < 5; i++) {
            for (int what = 0; what <= 5; what++) {
                call("of", i, what);
            }
        }
        for (int i = 0; i < 8; i++) {
            for (int what = 0; what <= 4; what++) {
                call("ofFact", i, what);
            }
        }
        for (int i = 0; i < 12; i++) {
            for (int what = 0; what <= 8; what++) {
                call("word", i, what);
            }
        }
        call("book", -1, 0);
        for (int i = 0; i < 30; i++) {
            for (int what = 0; what <= 3; what++) {
                call("book", i, what);
            }
        }
    }

    private void call(String name, Object... args) {
        if (!same) {
            return;
        }
        try {
            Object got = CLASS.get(name).invoke(object, args);
            Object due = MODEL.get(name).invoke(model, args);
            String line = name + Arrays.toString(args) + " = " + got;
            same = got.equals(due);
            log.add(same ? line : line + ", due is " + due);
        } catch (ReflectiveOperationException e) {
            same = false;
            log.add(name + Arrays.toString(args) + ": " + e + " by " + e.getCause());
        }
    }
}
