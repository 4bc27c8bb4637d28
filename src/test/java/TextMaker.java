import java.util.Random;

/** Makes texts by the grammar, some of them broken, and puts texts on a tape. */
final class TextMaker {
    private static final String[] NOISE = {
        "comes", "dues", "renown", "fact", "prophet", "foretell", "bring", "spoil", "sell", "day", "cost",
        "fame", "any", "all", "in", "fee", "by", "to", "price", "percent", "of", "so", "if", "then", "else",
        "end", "or", "and", "not", "many", "odds", "who", "purse", "facts", "due", "<", "<=", ">", ">=", "=",
        "#", "+", "-", "*", "/", "(", ")", ",", ";", "0", "7", "8", "9999", "10000", "x", "Day", "!", "\t",
        "61", "100", "1000", "12", "5", "00000000000000000001", "99999999999999999999"};

    private final Random random;

    TextMaker(Random random) {
        this.random = random;
    }

    private int pick(int n) {
        return random.nextInt(n);
    }

    private boolean chance(int percent) {
        return pick(100) < percent;
    }

    private String oneOf(String... signs) {
        return signs[pick(signs.length)];
    }

    /** A whole text of at most 300 bytes. */
    String text() {
        for (;;) {
            StringBuilder sb = new StringBuilder();
            int clauses = chance(5) ? 20 + pick(8) : pick(7);
            boolean terse = clauses > 15;
            int laws = pick(8);
            for (int i = 0; i < clauses; i++) {
                String law = i < 3 && (laws >> i & 1) == 1 ? new String[] {"comes", "dues", "renown"}[i] : null;
                sb.append(law == null ? terse ? oneOf("day 1;", "fact 1 cost 2;", "day 2;") : act() : law(law));
            }
            if (chance(4)) {
                sb.append(law(oneOf("comes", "dues", "renown")));
            }
            String made = chance(25) ? broken(sb.toString()) : sb.toString();
            if (made.length() <= 300) {
                return made;
            }
        }
    }

    private String space() {
        return chance(15) ? oneOf("  ", "\n", " \n ") : " ";
    }

    private String law(String kind) {
        if (chance(6)) {
            return kind + " " + nested(kind, 7 + pick(4)) + ";";
        }
        if (chance(3)) {
            return kind + " if " + "not ".repeat(5 + pick(5)) + nested(kind, pick(3)) + "=1 then 4 else 5 end;";
        }
        return kind + space() + sum(kind, chance(8) ? 9 : pick(5)) + (chance(50) ? " " : "") + ";" + (chance(50) ? "\n" : "");
    }

    String sum(String kind, int deep) {
        StringBuilder sb = new StringBuilder(product(kind, deep));
        while (chance(25)) {
            sb.append(oneOf(" + ", "-", " - ", "+")).append(product(kind, deep));
        }
        return sb.toString();
    }

    private String product(String kind, int deep) {
        StringBuilder sb = new StringBuilder(one(kind, deep));
        while (chance(20)) {
            sb.append(oneOf(" * ", "/", " / ", "*")).append(one(kind, deep));
        }
        return sb.toString();
    }

    private String name(String kind) {
        String[] ofComes = {"day", "many", "fact", "odds", "cost"};
        String[] ofOthers = {"day", "many", "who", "fame", "purse", "fee", "facts", "due"};
        boolean comes = kind.equals("comes") != chance(1);
        return comes ? oneOf(ofComes) : oneOf(ofOthers);
    }

    /** As many of those that can be open around one another as are asked for. */
    private String nested(String kind, int times) {
        if (times <= 0) {
            return name(kind);
        }
        String inner = nested(kind, times - 1);
        switch (pick(7)) {
            case 0:
                return "(" + inner + ")";
            case 1:
                return "-" + inner;
            case 2:
                return "so " + inner;
            case 3:
                return "percent " + inner + " of 7";
            case 4:
                return "percent 7 of " + inner;
            case 5:
                return "if " + inner + "<3 then 1 else 2 end";
            default:
                return "(3*" + inner + "-(1))";
        }
    }

    private String one(String kind, int deep) {
        if (deep <= 0 || chance(25)) {
            return chance(50) ? name(kind) : String.valueOf(chance(70) ? pick(12) : pick(10000));
        }
        switch (pick(5)) {
            case 0:
                return "(" + sum(kind, deep - 1) + ")";
            case 1:
                return "- " + one(kind, deep - 1);
            case 2:
                return "percent " + one(kind, deep - 1) + " of " + one(kind, deep - 1);
            case 3:
                return "so " + one(kind, deep - 1);
            default:
                return "if " + either(kind, deep - 1) + " then " + sum(kind, deep - 1) + " else "
                    + sum(kind, deep - 1) + " end";
        }
    }

    private String either(String kind, int deep) {
        StringBuilder sb = new StringBuilder(ask(kind, deep));
        while (chance(20)) {
            sb.append(oneOf(" or ", " and ")).append(ask(kind, deep));
        }
        return sb.toString();
    }

    private String ask(String kind, int deep) {
        if (deep > 0 && chance(25)) {
            return "not " + ask(kind, deep - 1);
        }
        int in = Math.max(0, deep - 2);
        return sum(kind, in) + oneOf("<", " <= ", ">", " >= ", "=", " # ") + sum(kind, in);
    }

    private String act() {
        switch (pick(9)) {
            case 0:
                return "fact " + pick(11) + " cost " + pick(20) + ";";
            case 1:
                return "prophet " + pick(chance(50) ? 200 : 10000) + " fame " + pick(100) + ";\n";
            case 2:
            case 3: {
                StringBuilder sb = new StringBuilder("foretell " + pick(4) + oneOf(" any ", " all ") + pick(5));
                int more = chance(3) ? 6 + pick(4) : pick(3);
                for (int i = 0; i < more; i++) {
                    sb.append(oneOf(",", " , ")).append(pick(6));
                }
                return sb + " in " + (1 + pick(9)) + " fee " + pick(60) + ";";
            }
            case 4:
                return "bring " + pick(6) + " by " + pick(4) + " ;";
            case 5:
                return "spoil " + pick(6) + " by " + pick(4) + ";";
            case 6:
                return "sell " + pick(6) + " to " + pick(4) + " price " + pick(40) + ";";
            default:
                return "day " + (chance(80) ? 1 + pick(4) : 1 + pick(60)) + ";";
        }
    }

    private String broken(String text) {
        StringBuilder sb = new StringBuilder(text);
        int times = 1 + pick(2);
        for (int i = 0; i < times; i++) {
            int at = pick(sb.length() + 1);
            switch (pick(6)) {
                case 0:
                    sb.insert(at, " " + oneOf(NOISE) + " ");
                    break;
                case 1:
                    sb.setLength(at);
                    break;
                case 2:
                    sb.delete(at, Math.min(sb.length(), at + 1 + pick(6)));
                    break;
                case 3:
                    sb.insert(at, (char) pick(256));
                    break;
                default:
                    replaceToken(sb, at);
                    break;
            }
        }
        return sb.toString();
    }

    /** Puts another TOKEN in the place of the one behind at; of a NUMBER mostly a NUMBER. */
    private void replaceToken(StringBuilder sb, int at) {
        int from = at;
        while (from < sb.length() && !Character.isLetterOrDigit(sb.charAt(from))) {
            from++;
        }
        boolean digit = from < sb.length() && Character.isDigit(sb.charAt(from));
        int to = from;
        while (to < sb.length() && Character.isLetterOrDigit(sb.charAt(to))) {
            to++;
        }
        String number = oneOf("0", "1", "4", "5", "7", "8", "10", "11", "12", "60", "61", "99", "100", "999", "1000",
            "9999", "10000");
        sb.replace(from, to, digit && chance(80) ? number : oneOf(NOISE));
    }

    /** The words of feed that have the bytes of a text, five to a row; the last ones end with 0. */
    static int[][] rows(String text) {
        int count = (text.length() + 19) / 20;
        int[][] rows = new int[count][5];
        for (int i = 0; i < text.length(); i++) {
            rows[i / 20][i % 20 / 4] |= (text.charAt(i) & 255) << 24 - i % 4 * 8;
        }
        return rows;
    }
}
