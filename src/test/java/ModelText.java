import java.util.ArrayList;
import java.util.HashMap;
import java.util.HashSet;
import java.util.LinkedHashSet;
import java.util.List;
import java.util.Map;
import java.util.Set;
import java.util.regex.Matcher;
import java.util.regex.Pattern;

/**
 * A second reading of the document's text rules, made otherwise than the class: tokens by patterns,
 * syntax by an Earley recogniser over the document's grammar, laws walked as they are written.
 */
final class ModelText {
    static final Set<String> WORDS = Set.of("house", "hears", "motion", "price", "eats", "glut", "votes",
            "rots", "salt", "odds", "seed", "if", "then", "else", "fish", "all", "day", "hunger", "coins",
            "fear", "salted", "ate", "which");
    private static final Pattern TOKEN = Pattern.compile("[\\t\\n\\r ]*(?:([a-z]+)|([0-9]+)|([;=+\\-*/<()])|([^\\t\\n\\r ]))");
    private static final Map<String, String[][]> GRAMMAR = new HashMap<>();

    static {
        rule("TEXT", "", "TELL TEXT");
        rule("TELL", "house NAME INT INT INT INT ;", "hears NAME NAME ;", "motion NAME NAMES ;", "LAWNAME LAW ;",
                "salt INT ;", "odds INT ;", "seed INT ;");
        rule("NAMES", "", "NAME NAMES");
        rule("LAWNAME", "price", "eats", "glut", "votes", "rots");
        rule("LAW", "= IFS E");
        rule("IFS", "", "if E < E then E else IFS");
        rule("E", "PART", "E + PART", "E - PART");
        rule("PART", "UNIT", "PART * UNIT", "PART / UNIT");
        rule("UNIT", "INT", "VAR", "( E )");
        rule("VAR", "fish", "all", "day", "hunger", "coins", "fear", "salted", "ate", "which");
    }

    record Token(String sort, String text, int place) { }

    private record Item(String left, int rule, int dot, int from) { }

    int fault;
    int place = -1;
    final List<String> names = new ArrayList<>();
    final List<int[]> houses = new ArrayList<>();
    final List<int[]> hears = new ArrayList<>();
    final List<Set<Integer>> motions = new ArrayList<>();
    final Map<String, List<String>> laws = new HashMap<>();
    int salt = 20;
    int odds = 0;
    int seed = 0;

    private static void rule(String left, String... rights) {
        String[][] all = new String[rights.length][];
        for (int i = 0; i < rights.length; i++) {
            all[i] = rights[i].isEmpty() ? new String[0] : rights[i].split(" ");
        }
        GRAMMAR.put(left, all);
    }

    ModelText(String text) {
        laws.put("price", List.of("10"));
        laws.put("eats", List.of("0"));
        laws.put("glut", List.of("5"));
        laws.put("votes", List.of("fish"));
        laws.put("rots", List.of("0"));
        List<Token> tokens = tokens(text);
        lookForSyntaxAndRoom(tokens, text.length());
        if (fault == 0) {
            lookForNamesAndNumbers(tokens);
        }
    }

    static List<Token> tokens(String text) {
        List<Token> tokens = new ArrayList<>();
        Matcher m = TOKEN.matcher(text);
        int at = 0;
        while (m.find(at)) {
            at = m.end();
            if (m.group(1) != null) {
                String word = m.group(1);
                String sort = WORDS.contains(word) ? word : word.length() <= 8 ? "NAME" : "BAD";
                tokens.add(new Token(sort, word, m.start(1)));
            } else if (m.group(2) != null) {
                tokens.add(new Token(m.group(2).length() <= 4 ? "INT" : "BAD", m.group(2), m.start(2)));
            } else if (m.group(3) != null) {
                tokens.add(new Token(m.group(3), m.group(3), m.start(3)));
            } else {
                tokens.add(new Token("BAD", m.group(4), m.start(4)));
            }
        }
        return tokens;
    }

    /** How many tokens a text can go on with; whether the text may end there is put into ends[0]. */
    private static int viable(List<Token> tokens, boolean[] ends) {
        List<LinkedHashSet<Item>> sets = new ArrayList<>();
        LinkedHashSet<Item> first = new LinkedHashSet<>();
        for (int i = 0; i < GRAMMAR.get("TEXT").length; i++) {
            first.add(new Item("TEXT", i, 0, 0));
        }
        sets.add(first);
        for (int at = 0; ; at++) {
            LinkedHashSet<Item> next = new LinkedHashSet<>();
            close(sets, at, at < tokens.size() ? tokens.get(at).sort() : null, next);
            if (at >= tokens.size() || next.isEmpty()) {
                ends[0] = false;
                for (Item item : sets.get(at)) {
                    ends[0] |= item.left().equals("TEXT") && item.from() == 0
                            && item.dot() == GRAMMAR.get("TEXT")[item.rule()].length;
                }
                return at;
            }
            sets.add(next);
        }
    }

    private static void close(List<LinkedHashSet<Item>> sets, int at, String sort, LinkedHashSet<Item> next) {
        List<Item> work = new ArrayList<>(sets.get(at));
        Set<Item> seen = sets.get(at);
        for (int i = 0; i < work.size(); i++) {
            Item item = work.get(i);
            String[] right = GRAMMAR.get(item.left())[item.rule()];
            List<Item> found = new ArrayList<>();
            if (item.dot() == right.length) {
                for (Item outer : new ArrayList<>(sets.get(item.from()))) {
                    String[] outerRight = GRAMMAR.get(outer.left())[outer.rule()];
                    if (outer.dot() < outerRight.length && outerRight[outer.dot()].equals(item.left())) {
                        found.add(new Item(outer.left(), outer.rule(), outer.dot() + 1, outer.from()));
                    }
                }
            } else if (GRAMMAR.containsKey(right[item.dot()])) {
                String inner = right[item.dot()];
                for (int r = 0; r < GRAMMAR.get(inner).length; r++) {
                    found.add(new Item(inner, r, 0, at));
                }
                if (inner.equals("TEXT") || inner.equals("NAMES") || inner.equals("IFS")) {
                    found.add(new Item(item.left(), item.rule(), item.dot() + 1, item.from()));
                }
            } else if (right[item.dot()].equals(sort)) {
                next.add(new Item(item.left(), item.rule(), item.dot() + 1, item.from()));
            }
            for (Item f : found) {
                if (seen.add(f)) {
                    work.add(f);
                }
            }
        }
    }

    private void lookForSyntaxAndRoom(List<Token> tokens, int length) {
        boolean[] ends = new boolean[1];
        int viable = viable(tokens, ends);
        int syntaxAt = viable < tokens.size() ? tokens.get(viable).place() : ends[0] ? Integer.MAX_VALUE : length;
        int roomAt = Integer.MAX_VALUE;
        Map<String, Integer> sorts = new HashMap<>();
        int ifs = 0;
        int open = 0;
        for (int i = 0; i < viable && roomAt == Integer.MAX_VALUE; i++) {
            String sort = tokens.get(i).sort();
            sorts.merge(sort, 1, Integer::sum);
            ifs = sort.equals("=") ? 0 : sort.equals("if") ? ifs + 1 : ifs;
            open += sort.equals("(") ? 1 : sort.equals(")") ? -1 : 0;
            if (i == 400 || sorts.getOrDefault("house", 0) > 7 || sorts.getOrDefault("hears", 0) > 16
                    || sorts.getOrDefault("motion", 0) > 5 || ifs > 4 || open > 6) {
                roomAt = tokens.get(i).place();
            }
        }
        if (syntaxAt <= roomAt && syntaxAt != Integer.MAX_VALUE) {
            fault = 1;
            place = syntaxAt;
        } else if (roomAt != Integer.MAX_VALUE) {
            fault = 2;
            place = roomAt;
        }
    }

    private void wrong(int number, Token token) {
        if (fault == 0) {
            fault = number;
            place = token.place();
        }
    }

    private void lookForNamesAndNumbers(List<Token> tokens) {
        Set<String> taken = new HashSet<>();
        List<Token> tell = new ArrayList<>();
        for (Token token : tokens) {
            if (!token.sort().equals(";")) {
                tell.add(token);
                continue;
            }
            takeTell(tell, taken);
            tell = new ArrayList<>();
        }
    }

    private int limited(Token token, int most) {
        int number = Integer.parseInt(token.text());
        if (number > most) {
            wrong(5, token);
        }
        return number;
    }

    private int houseOf(Token token) {
        int house = names.indexOf(token.text());
        if (house < 0) {
            wrong(4, token);
        }
        return house;
    }

    private void takeTell(List<Token> tell, Set<String> taken) {
        String word = tell.get(0).sort();
        switch (word) {
            case "house" -> {
                if (!taken.add(tell.get(1).text())) {
                    wrong(3, tell.get(1));
                }
                int[] house = {limited(tell.get(2), 99), limited(tell.get(3), 999), limited(tell.get(4), 9),
                    limited(tell.get(5), 9)};
                names.add(tell.get(1).text());
                houses.add(house);
            }
            case "hears" -> {
                int[] pair = {houseOf(tell.get(1)), houseOf(tell.get(2))};
                boolean twice = pair[0] == pair[1];
                for (int[] other : hears) {
                    twice |= other[0] == pair[0] && other[1] == pair[1];
                }
                if (twice) {
                    wrong(3, tell.get(2));
                }
                hears.add(pair);
            }
            case "motion" -> {
                if (!taken.add(tell.get(1).text())) {
                    wrong(3, tell.get(1));
                }
                Set<Integer> members = new HashSet<>();
                for (Token token : tell.subList(2, tell.size())) {
                    if (!members.add(houseOf(token))) {
                        wrong(3, token);
                    }
                }
                motions.add(members);
            }
            case "salt" -> salt = limited(tell.get(1), 999);
            case "odds" -> odds = limited(tell.get(1), 100);
            case "seed" -> seed = limited(tell.get(1), 9999);
            default -> {
                List<String> law = new ArrayList<>();
                for (Token token : tell.subList(2, tell.size())) {
                    law.add(token.text());
                }
                laws.put(word, law);
            }
        }
    }

    /** A law walked as it is written; what is not looked at is only skipped. */
    static final class Walk {
        private static final class Zero extends RuntimeException {
            private static final long serialVersionUID = 1;
        }

        private final List<String> law;
        private final Map<String, Integer> vars;
        private int at;

        Walk(List<String> law, Map<String, Integer> vars) {
            this.law = law;
            this.vars = vars;
        }

        int value() {
            try {
                while (law.get(at).equals("if")) {
                    at++;
                    int left = sum();
                    at++;
                    int right = sum();
                    at++;
                    if (left < right) {
                        return sum();
                    }
                    while (!law.get(at).equals("else")) {
                        at++;
                    }
                    at++;
                }
                return sum();
            } catch (Zero zero) {
                return 0;
            }
        }

        private boolean nextIs(String one, String other) {
            return at < law.size() && (law.get(at).equals(one) || law.get(at).equals(other));
        }

        private int sum() {
            int value = product();
            while (nextIs("+", "-")) {
                boolean plus = law.get(at++).equals("+");
                int other = product();
                value = (int) (plus ? (long) value + other : (long) value - other);
            }
            return value;
        }

        private int product() {
            int value = unit();
            while (nextIs("*", "/")) {
                boolean times = law.get(at++).equals("*");
                int other = unit();
                if (!times && other == 0) {
                    throw new Zero();
                }
                value = (int) (times ? (long) value * other : (long) value / other);
            }
            return value;
        }

        private int unit() {
            String token = law.get(at++);
            if (token.equals("(")) {
                int value = sum();
                at++;
                return value;
            }
            return Character.isDigit(token.charAt(0)) ? Integer.parseInt(token) : vars.getOrDefault(token, 0);
        }
    }
}
