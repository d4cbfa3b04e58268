import java.util.Random;

/** Draws texts of up to 300 bytes, sound ones and broken ones. */
final class TextMaker {
    private static final String[] WORDS = {"says", "sways", "person", "sort", "hear", "from", "tell", "up", "down",
        "day", "lean", "said", "if", "then", "else", "end", "or", "and", "not", "round", "who", "own", "people",
        "heard", "figure", "yes", "<", "<=", ">", ">=", "=", "#", "+", "-", "*", "/", "(", ")", ";", "0", "1", "7",
        "8", "9", "10", "60", "61", "9999", "10000", "x", "Says", "!", "\u00e9", "\0", "\t", "saysx", "99999999999"};

    private final Random random;
    private boolean sways;

    TextMaker(Random random) {
        this.random = random;
    }

    String text() {
        StringBuilder text = new StringBuilder();
        boolean says = random.nextInt(4) > 0;
        boolean swaying = random.nextInt(4) > 0;
        int clauses = random.nextInt(random.nextInt(5) == 0 ? 24 : 8);
        for (int i = 0; i < clauses; i++) {
            if (says && random.nextInt(3) == 0) {
                add(text, law("says", false));
                says = false;
            } else if (swaying && random.nextInt(3) == 0) {
                add(text, law("sways", true));
                swaying = false;
            } else {
                add(text, clause());
            }
        }
        if (says) {
            add(text, law("says", false));
        }
        if (swaying) {
            add(text, law("sways", true));
        }
        return text.toString();
    }

    /** A sound text, one or two of its bytes or words being others. */
    String broken() {
        StringBuilder text = new StringBuilder(text());
        int times = 1 + random.nextInt(2);
        for (int i = 0; i < times; i++) {
            int at = random.nextInt(text.length() + 1);
            String word = WORDS[random.nextInt(WORDS.length)];
            switch (random.nextInt(4)) {
                case 0:
                    text.insert(at, " " + word + " ");
                    break;
                case 1:
                    text.insert(at, word);
                    break;
                case 2:
                    text.setLength(at);
                    break;
                default:
                    text.delete(at, Math.min(text.length(), at + 1 + random.nextInt(4)));
            }
        }
        if (text.length() > 300) {
            text.setLength(300);
        }
        return text.toString();
    }

    /** Words that can mostly stand where they stand, by a walk that knows little of the grammar. */
    String soup() {
        StringBuilder text = new StringBuilder();
        int most = random.nextBoolean() ? 300 : 60;
        int clauses = 0;
        while (clauses < 26 && text.length() < most) {
            text.append(random.nextInt(60) == 0 ? WORDS[random.nextInt(WORDS.length)] : soupClause());
            clauses++;
        }
        if (text.length() > 300) {
            text.setLength(300);
        }
        return text.toString();
    }

    private String soupClause() {
        if (random.nextInt(8) > 0) {
            return random.nextBoolean() ? "up " + random.nextInt(8) + ";" : "day 1;";
        }
        StringBuilder law = new StringBuilder(random.nextBoolean() ? "says " : "sways ");
        int openers = random.nextInt(11);
        int closers = 0;
        for (int i = 0; i < openers; i++) {
            String[] words = {"(", "-", "lean ", "said ", "if ", "if not "};
            String word = words[random.nextInt(random.nextInt(4) == 0 ? 6 : 4)];
            closers += word.equals("(") ? 1 : 0;
            law.append(word);
        }
        law.append(random.nextInt(5) == 0 ? "yes" : random.nextInt(30) == 0 ? "10000" : "own");
        for (int i = 0; i < closers; i++) {
            law.append(")");
        }
        return law.append(";").toString();
    }

    private void add(StringBuilder text, String clause) {
        if (text.length() + clause.length() <= 300) {
            text.append(clause);
        }
    }

    private String law(String kind, boolean inSways) {
        sways = inSways;
        return kind + " " + sum(random.nextInt(5)) + gap() + ";";
    }

    private String gap() {
        return random.nextInt(6) == 0 ? random.nextBoolean() ? "\n" : "  " : "";
    }

    private String clause() {
        switch (random.nextInt(8)) {
            case 0: return "person " + random.nextInt(10) + " sort " + random.nextInt(4) + ";";
            case 1: return "hear " + random.nextInt(8) + " from " + random.nextInt(8) + ";" + gap();
            case 2: return "tell " + random.nextInt(9) + gap() + ";";
            case 3:
            case 4: return "up " + random.nextInt(8) + ";";
            case 5: return "down " + random.nextInt(8) + ";";
            default: return "day " + (1 + random.nextInt(random.nextInt(5) == 0 ? 60 : 4)) + ";";
        }
    }

    private String sum(int deep) {
        StringBuilder sum = new StringBuilder(product(deep));
        while (random.nextInt(3) == 0) {
            sum.append(random.nextBoolean() ? " + " : "-").append(product(deep));
        }
        return sum.toString();
    }

    private String product(int deep) {
        StringBuilder product = new StringBuilder(one(deep));
        while (random.nextInt(5) == 0) {
            product.append(random.nextBoolean() ? "*" : "/").append(one(deep));
        }
        return product.toString();
    }

    private String one(int deep) {
        if (deep <= 0 || random.nextInt(3) == 0) {
            String[] names = {"round", "who", "own", "sort", "people", "heard", "figure", "figure", "own", "yes"};
            String name = names[random.nextInt(sways ? 10 : 9)];
            return random.nextInt(3) == 0 ? " " + number() : " " + name + " ";
        }
        switch (random.nextInt(5)) {
            case 0: return "(" + sum(deep - 1) + ")";
            case 1: return "-" + one(deep - 1);
            case 2: return " lean " + one(deep - 1);
            case 3: return " said " + one(deep - 1);
            default:
                return " if " + either(deep - 1) + " then " + sum(deep - 1) + " else " + sum(deep - 1) + " end ";
        }
    }

    private int number() {
        return random.nextInt(4) == 0 ? random.nextInt(10000) : random.nextInt(10);
    }

    private String either(int deep) {
        StringBuilder either = new StringBuilder(ask(deep));
        while (random.nextInt(4) == 0) {
            either.append(random.nextBoolean() ? " or " : " and ").append(ask(deep));
        }
        return either.toString();
    }

    private String ask(int deep) {
        if (deep > 0 && random.nextInt(4) == 0) {
            return "not " + ask(deep - 1);
        }
        String[] how = {"<", "<=", ">", ">=", "=", "#"};
        return sum(deep - 1) + how[random.nextInt(how.length)] + sum(deep - 1);
    }
}
