import java.util.Random;

/** Texts by chance: most are views, some are spoilt by a sign. */
final class Texts {
    private static final String SIGNS = "coinadszeruhl 0123456789pkvctl<=>!()&|; ";

    private Texts() {
    }

    static String some(Random random) {
        StringBuilder text = new StringBuilder();
        int clauses = 1 + random.nextInt(random.nextInt(6) == 0 ? 11 : 4);
        for (int i = 0; i < clauses; i++) {
            text.append(i > 0 ? ";" : "").append(clause(random, clauses > 6));
        }
        if (random.nextInt(4) == 0) {
            spoil(random, text);
        }
        if (text.length() > 100) {
            text.setLength(100);
        }
        return text.toString();
    }

    private static String clause(Random random, boolean small) {
        switch (random.nextInt(small ? 3 : 8)) {
            case 0: return "coin " + number(random);
            case 1: return "adds " + number(random);
            case 2: return "haze " + (random.nextInt(6) == 0 ? number(random) : "" + random.nextInt(4));
            case 3: case 4: return "dull " + number(random) + " " + either(random, 0);
            default: return "dear " + number(random) + " " + either(random, 0);
        }
    }

    private static String number(Random random) {
        return "" + random.nextInt(random.nextBoolean() ? 10 : 100);
    }

    private static String either(Random random, int open) {
        String e = both(random, open);
        return random.nextInt(4) == 0 ? e + "|" + either(random, open) : e;
    }

    private static String both(Random random, int open) {
        String e = one(random, open);
        return random.nextInt(4) == 0 ? e + "&" + both(random, open) : e;
    }

    private static String one(Random random, int open) {
        int way = random.nextInt(7);
        if (way < 3 && open < 5 + (random.nextInt(8) == 0 ? 1 : 0)) {
            return way == 0 ? "(" + either(random, open + 1) + ")" : "!" + one(random, open + 1);
        }
        return test(random);
    }

    private static String test(Random random) {
        String sign = "" + "<=>".charAt(random.nextInt(3));
        switch (random.nextInt(6)) {
            case 0: return "p" + sign + random.nextInt(6);
            case 1: return "k" + sign + random.nextInt(7);
            case 2: return "v" + sign + random.nextInt(10);
            case 3: return "c" + sign + random.nextInt(24);
            case 4: return "t" + sign + random.nextInt(10);
            default: return "l" + sign + (random.nextInt(3) == 0 ? number(random) : "" + random.nextInt(9));
        }
    }

    private static void spoil(Random random, StringBuilder text) {
        int at = random.nextInt(text.length());
        char sign = SIGNS.charAt(random.nextInt(SIGNS.length()));
        switch (random.nextInt(5)) {
            case 0: text.setLength(at); break;
            case 1: text.deleteCharAt(at); break;
            case 2: text.insert(at, sign); break;
            case 3: text.setCharAt(at, (char) random.nextInt(128)); break;
            default: text.setCharAt(at, sign);
        }
    }
}
