/** Promises 14 to 16, 26 and 33 to 36: PANIC, SPARK, CALM, QUIET; TOLD, BEGAN, ASK. */
public final class PanicTest {
    private static final Due DUE = new Due();
    private static final int[] NONE_SUCH = {-1, 7, -2, Integer.MIN_VALUE, Integer.MAX_VALUE};

    public static void main(String[] args) {
        panics();
        fearless();
        sparks();
        calms();
        calmsByThree();
        calmsTheFirstOfAlike();
        quiet();
        told();
        toldTwenty();
        asks();
        wrongInputs();
        DUE.end();
    }

    /** Houses a, b, c .. with the fears told, and pairs as "ba": b hears of a. */
    private static HerringShares town(String fears, String... pairs) {
        StringBuilder text = new StringBuilder();
        for (int i = 0; i < fears.length(); i++) {
            text.append("house ").append((char) ('a' + i)).append(" 5 5 5 ").append(fears.charAt(i)).append(';');
        }
        for (String pair : pairs) {
            text.append("hears ").append(pair.charAt(0)).append(' ').append(pair.charAt(1)).append(';');
        }
        return Due.town(text.toString());
    }

    private static void panics() {
        DUE.about("promise 14");
        // a chain told from its end, so that one round is not enough
        HerringShares x = town("1111", "ab", "bc", "cd");
        int[] chain = {1, 3, 7, 15};
        for (int i = 0; i < 4; i++) {
            DUE.is("panic(" + i + ")", chain[i], x.panic(i));
        }
        x = town("1122", "ba", "ca", "cb", "dc");
        int[] twice = {7, 2, 4, 8};
        for (int i = 0; i < 4; i++) {
            DUE.is("panic(" + i + ")", twice[i], x.panic(i));
        }
        DUE.is("of nobody it hears", 4, town("9999").panic(2));
    }

    private static void fearless() {
        DUE.about("promise 14, FEAR 0");
        HerringShares x = town("2011", "da", "db", "cd");
        DUE.is("panic(0)", 15, x.panic(0));
        DUE.is("panic(1)", 14, x.panic(1));
        DUE.is("panic(2)", 14, x.panic(2));
        DUE.is("quiet(1)", 0, x.quiet(1));
    }

    private static void sparks() {
        DUE.about("promise 15");
        HerringShares x = town("1111", "ab", "bc", "cd");
        DUE.is("which", 3, x.spark(0));
        DUE.is("how many", 4, x.spark(1));
        x = town("1111", "ab", "ba", "cd", "dc");
        DUE.is("the first of alike ones", 0, x.spark(0));
        DUE.is("how many", 2, x.spark(1));
        x = town("9999", "bc");
        DUE.is("none but itself", 0, x.spark(0));
        DUE.is("how many", 1, x.spark(1));
        HerringShares empty = new HerringShares();
        DUE.is("no HOUSES", -2, empty.spark(0));
        DUE.is("no HOUSES", -2, empty.spark(1));
        for (int what : new int[] {-1, 2, Integer.MIN_VALUE, Integer.MAX_VALUE}) {
            DUE.is("spark(" + what + ")", -1, x.spark(what));
            DUE.is("spark(" + what + ") without HOUSES", -1, empty.spark(what));
        }
    }

    private static void calms() {
        DUE.about("promise 16");
        HerringShares x = town("1111", "ba", "cb", "dc");
        DUE.is("one", 1, x.calm(0, 3, -1));
        DUE.is("the first of b and c", 1, x.calm(0, 3, 0));
        DUE.is("no second one", -1, x.calm(0, 3, 1));
        DUE.is("it does not eat as it is", 0, x.calm(3, 0, -1));
        DUE.is("no first one", -1, x.calm(3, 0, 0));
        DUE.is("it hears of him who began", -2, x.calm(0, 1, -1));
        for (int i = 0; i < 3; i++) {
            DUE.is("it hears of him who began, i " + i, -2, x.calm(0, 1, i));
        }
        x = town("0011", "ca");
        DUE.is("who fears nothing eats whatever is done", -2, x.calm(1, 0, -1));
        DUE.is("a calmed one of FEAR 0 does not eat", 0, x.calm(3, 2, 0));
    }

    private static void calmsByThree() {
        DUE.about("promise 16, three and more");
        HerringShares x = town("111111", "ba", "ca", "da", "fb", "fc", "fd");
        DUE.is("three", 3, x.calm(0, 5, -1));
        int[] which = {1, 2, 3};
        for (int i = 0; i < 3; i++) {
            DUE.is("which, " + i, which[i], x.calm(0, 5, i));
        }
        x = town("1111111", "ba", "ca", "da", "ea", "gb", "gc", "gd", "ge");
        DUE.is("four are needed", -2, x.calm(0, 6, -1));
        DUE.is("four are needed, i 0", -2, x.calm(0, 6, 0));
        x = town("1111112", "ba", "ca", "da", "ea", "gb", "gc", "gd", "ge");
        DUE.is("three of four", 3, x.calm(0, 6, -1));
        DUE.is("the third", 3, x.calm(0, 6, 2));
    }

    private static void calmsTheFirstOfAlike() {
        DUE.about("promise 16, alike ones");
        // two ways from a to g: by b then f, and by c, d, e in a row
        HerringShares x = town("1111111", "ba", "fb", "gf", "ca", "dc", "ed", "ge");
        DUE.is("two", 2, x.calm(0, 6, -1));
        DUE.is("the least", 1, x.calm(0, 6, 0));
        DUE.is("the next one", 2, x.calm(0, 6, 1));
        // only (b, f) and (c, d) do; (b, f) is ahead, though as a number of bits it is more
        x = town("1111111", "ca", "da", "bc", "bd", "fc", "fd", "gb", "gf");
        DUE.is("two", 2, x.calm(0, 6, -1));
        DUE.is("the least", 1, x.calm(0, 6, 0));
        DUE.is("the next one", 5, x.calm(0, 6, 1));
        x = town("1111114", "ba", "ca", "da", "ea", "fa", "gb", "gc", "gd", "ge", "gf");
        DUE.is("two of five", 2, x.calm(0, 6, -1));
        DUE.is("the next one", 2, x.calm(0, 6, 1));
    }

    private static void quiet() {
        DUE.about("promise 26");
        HerringShares x = town("1122", "ba", "ca", "cb", "dc");
        int[] want = {14, 12, 10, 7};
        for (int i = 0; i < 4; i++) {
            DUE.is("quiet(" + i + ")", want[i], x.quiet(i));
        }
    }

    private static void told() {
        DUE.about("promises 33 to 36");
        HerringShares x = town("1122", "ba", "ca", "cb", "dc");
        DUE.is("nothing KNOWN", 4, x.began(0, 0));
        DUE.is("nothing KNOWN", 15, x.began(0, 1));
        DUE.is("tell", 0, x.tell(2, true));
        DUE.is("tell", 1, x.tell(1, false));
        DUE.is("tell", 2, x.tell(3, true));
        int[] many = {4, 2, 1, 0};
        int[] which = {15, 5, 4, 0};
        int[] asked = {1, 0, 0, -2};
        for (int k = 0; k < 4; k++) {
            DUE.is("began(" + k + ", 0)", many[k], x.began(k, 0));
            DUE.is("began(" + k + ", 1)", which[k], x.began(k, 1));
            DUE.is("ask(" + k + ")", asked[k], x.ask(k));
        }
        DUE.is("began(4, 0)", -1, x.began(4, 0));
        DUE.is("ask(4)", -1, x.ask(4));
        DUE.is("count(10)", 3, x.count(10));
        DUE.is("not undone", false, x.undo());
        DUE.is("forget", 3, x.forget());
        DUE.is("forget", 0, x.forget());
        DUE.is("count(10)", 0, x.count(10));
        DUE.is("began(1, 0)", -1, x.began(1, 0));
        DUE.is("told anew", 0, x.tell(0, false));
        DUE.is("began(1, 1)", 14, x.began(1, 1));
    }

    private static void toldTwenty() {
        DUE.about("promise 33, 20 at most");
        HerringShares x = town("11", "ba");
        for (int i = 0; i < 20; i++) {
            DUE.is("tell " + i, i, x.tell(1, true));
        }
        DUE.is("the 21st", -1, x.tell(0, false));
        DUE.is("count(10)", 20, x.count(10));
        DUE.is("began(20, 0)", 2, x.began(20, 0));
        DUE.is("began(21, 0)", -1, x.began(21, 0));
        DUE.is("forget", 20, x.forget());
        DUE.is("tell", 0, x.tell(1, false));
        DUE.is("nobody", 0, x.began(1, 0));
    }

    private static void asks() {
        DUE.about("promise 36");
        // by whom it began, a eats for 4 of 4, b for 3, c for 2, d for 1
        HerringShares x = town("1111", "ab", "bc", "cd");
        DUE.is("ask(0)", 2, x.ask(0));
        x.tell(2, false);
        DUE.is("began(1, 1)", 3, x.began(1, 1));
        DUE.is("ask(1)", 1, x.ask(1));
        x.tell(1, false);
        DUE.is("one is left, whoever is asked", 0, x.ask(2));
        x.tell(1, true);
        DUE.is("nobody is left", -2, x.ask(3));
        x = town("0000");
        DUE.is("all eat: the first", 0, x.ask(0));
        DUE.is("no HOUSES", -2, new HerringShares().ask(0));
        DUE.is("no HOUSES", 0, new HerringShares().began(0, 1));
    }

    private static void wrongInputs() {
        DUE.about("no such ones");
        HerringShares x = town("1122", "ba", "ca", "cb", "dc");
        for (int h : NONE_SUCH) {
            DUE.is("panic(" + h + ")", -1, x.panic(h));
            DUE.is("quiet(" + h + ")", -1, x.quiet(h));
            DUE.is("calm(" + h + ", 0, -1)", -1, x.calm(h, 0, -1));
            DUE.is("calm(0, " + h + ", -1)", -1, x.calm(0, h, -1));
            DUE.is("tell(" + h + ")", -1, x.tell(h, true));
            DUE.is("began(" + h + ", 0)", -1, x.began(h, 0));
            DUE.is("began(0, " + h + ")", -1, x.began(0, h));
            DUE.is("ask(" + h + ")", -1, x.ask(h));
        }
        DUE.is("began(0, 2)", -1, x.began(0, 2));
        DUE.is("panic(4)", -1, x.panic(4));
        DUE.is("one and the same", -1, x.calm(1, 1, -1));
        for (int i : new int[] {-2, 3, Integer.MIN_VALUE, Integer.MAX_VALUE}) {
            DUE.is("calm(0, 2, " + i + ")", -1, x.calm(0, 2, i));
            DUE.is("calm(0, 1, " + i + "), not by three either", -1, x.calm(0, 1, i));
        }
        DUE.is("count(10)", 0, x.count(10));
    }
}
