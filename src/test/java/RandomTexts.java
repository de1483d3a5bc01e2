import java.util.ArrayList;
import java.util.List;
import java.util.Random;

/** Texts by chance: well made ones, and ones with something torn. */
final class RandomTexts {
    private static final String[] VARS = {"fish", "all", "day", "hunger", "coins", "fear", "salted", "ate", "which"};
    private static final String[] SPOILERS = {"house", "hears", "motion", "price", "if", "then", "else", "fish", "(",
        ")", ";", "=", "<", "+", "*", "/", "-", "ab", "abcdefgh", "abcdefghi", "12345", "1234", "100", "A", "~", "\u00e9",
        "salt", "odds", "0", "9", "10", "1000", "h", "i", "m"};

    private final Random random;
    private final List<String> tokens = new ArrayList<>();

    RandomTexts(Random random) {
        this.random = random;
    }

    String text(boolean spoiled) {
        boolean full = random.nextInt(12) == 0;
        int houses = full ? 7 + random.nextInt(2) * (spoiled ? 1 : 0) : 1 + random.nextInt(7);
        for (int i = 0; i < houses; i++) {
            add("house", name(i), "" + random.nextInt(random.nextInt(3) == 0 ? 100 : 20),
                    "" + random.nextInt(random.nextInt(2) == 0 ? 1000 : 60), "" + random.nextInt(10),
                    "" + random.nextInt(random.nextInt(3) == 0 ? 10 : 3), ";");
        }
        addHearings(Math.min(7, houses), spoiled);
        addMotions(Math.min(7, houses), spoiled);
        String[] laws = {"price", "eats", "glut", "votes", "rots"};
        for (int i = full ? random.nextInt(12) : 0; i > 0; i--) {
            addLaw(laws[random.nextInt(5)]);
        }
        for (String law : laws) {
            for (int i = random.nextInt(5); i < 3; i += 2) {
                addLaw(law);
            }
        }
        addNumber("salt", random.nextInt(spoiled ? 1050 : 60));
        addNumber("odds", random.nextInt(spoiled ? 110 : 101));
        addNumber("seed", random.nextInt(10000));
        for (int i = spoiled ? random.nextInt(3) : 0; i > 0; i--) {
            if (random.nextInt(3) == 0) {
                spoil();
            } else {
                spoilANameOrNumber();
            }
        }
        return joined(spoiled && random.nextInt(10) == 0);
    }

    private String name(int i) {
        return "" + (char) ('h' + i) + (i % 3 == 0 ? "erring" : "");
    }

    private void add(String... more) {
        tokens.addAll(List.of(more));
    }

    private void addNumber(String word, int number) {
        if (random.nextInt(3) != 0) {
            add(word, "" + number, ";");
        }
    }

    private void addHearings(int houses, boolean spoiled) {
        boolean[] taken = new boolean[64];
        int most = spoiled ? 18 : 16;
        int wanted = random.nextInt(20);
        for (int i = 0, got = 0; i < wanted && got < most; i++) {
            int a = random.nextInt(houses);
            int b = random.nextInt(houses);
            if (a != b && !taken[8 * a + b] || spoiled && random.nextInt(20) == 0) {
                taken[8 * a + b] = true;
                got++;
                add("hears", name(a), name(b), ";");
            }
        }
    }

    private void addMotions(int houses, boolean spoiled) {
        int motions = random.nextInt(spoiled ? 7 : 6);
        for (int m = 0; m < motions; m++) {
            add("motion", spoiled && random.nextInt(15) == 0 ? name(0) : "m" + (char) ('a' + m));
            for (int i = 0; i < houses; i++) {
                if (random.nextInt(3) == 0) {
                    add(name(i));
                }
            }
            add(";");
        }
    }

    private void addLaw(String law) {
        add(law, "=");
        for (int i = random.nextInt(8); i < 4; i += 1 + random.nextInt(4)) {
            add("if");
            addSum(2);
            add("<");
            addSum(2);
            add("then");
            addSum(1);
            add("else");
        }
        addSum(random.nextInt(4));
        add(";");
    }

    private void addSum(int depth) {
        addUnit(depth);
        for (int i = random.nextInt(3); i > 0; i--) {
            add("" + "+-*/".charAt(random.nextInt(4)));
            addUnit(depth);
        }
    }

    private void addUnit(int depth) {
        int sort = random.nextInt(5);
        if (sort == 0 && depth > 0) {
            add("(");
            addSum(random.nextInt(20) == 0 ? depth + 4 : depth - 1);
            add(")");
        } else if (sort < 3) {
            add(VARS[random.nextInt(VARS.length)]);
        } else {
            add("" + (random.nextInt(6) == 0 ? random.nextInt(10000) : random.nextInt(12)));
        }
    }

    private void spoil() {
        int at = random.nextInt(tokens.size());
        int sort = random.nextInt(4);
        if (sort == 0) {
            tokens.remove(at);
        } else if (sort == 1) {
            tokens.add(at, SPOILERS[random.nextInt(SPOILERS.length)]);
        } else if (sort == 2) {
            tokens.set(at, SPOILERS[random.nextInt(SPOILERS.length)]);
        } else {
            tokens.set(at, tokens.get(random.nextInt(tokens.size())));
        }
        if (tokens.isEmpty()) {
            add(";");
        }
    }

    /** The text stays well formed: the faults behind those of syntax and room come up. */
    private void spoilANameOrNumber() {
        int at = random.nextInt(tokens.size());
        String token = tokens.get(at);
        if (Character.isDigit(token.charAt(0))) {
            tokens.set(at, "" + random.nextInt(random.nextBoolean() ? 12 : 1200));
        } else if (Character.isLetter(token.charAt(0)) && !ModelText.WORDS.contains(token)) {
            tokens.set(at, random.nextInt(4) == 0 ? "m" : name(random.nextInt(8)));
        }
    }

    private String joined(boolean torn) {
        StringBuilder text = new StringBuilder();
        boolean tight = random.nextBoolean();
        for (String token : tokens) {
            if (!tight || text.length() > 0 && sameSort(text.charAt(text.length() - 1), token.charAt(0))) {
                text.append("\t\n\r    ".charAt(random.nextInt(7)));
            }
            text.append(token);
        }
        int length = Math.min(2000, torn ? random.nextInt(text.length() + 1) : text.length());
        return text.substring(0, length);
    }

    private static boolean sameSort(char a, char b) {
        return Character.isLetter(a) && Character.isLetter(b) || Character.isDigit(a) && Character.isDigit(b);
    }
}
