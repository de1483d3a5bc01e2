/** Promises 6 and 7, and the LAWS: what a HOUSE has, what LAWS tell. */
public final class LawsTest {
    private static final Due DUE = new Due();

    public static void main(String[] args) {
        houses();
        untold();
        arithmetic();
        conditions();
        deep();
        dividedByZero();
        held();
        varsOfAHouse();
        varsOfPriceAndGlut();
        wrongInputs();
        DUE.end();
    }

    /** The VOTES of the first HOUSE: of all LAWS, theirs is held to the widest bounds. */
    private static void votes(int want, String law) {
        HerringShares x = Due.town("house a 7 30 4 3; house b 5 0 0 0; votes = " + law + ";");
        DUE.about("votes = " + law);
        DUE.is("house(0, 7)", want, x.house(0, 7));
    }

    private static void houses() {
        DUE.about("promise 6");
        HerringShares x = Due.town("house a 20 50 3 1; house b 10 200 5 2; house c 6 8 2 0; hears b a; hears b c;");
        int[][] want = {{20, 50, 3, 1, 0, 0, -2, 20, 20, 0}, {10, 200, 5, 2, 0, 0, -2, 10, 10, 5},
            {6, 8, 2, 0, 0, 0, -2, 6, 6, 0}};
        for (int h = 0; h < 3; h++) {
            for (int what = 0; what < 10; what++) {
                DUE.is("house(" + h + ", " + what + ")", want[h][what], x.house(h, what));
            }
        }
        x.salts(0, 5);
        x.eat(0, 17);
        x.proxy(0, 1);
        int[] later = {3, 50, 3, 1, 3, 17, 1, 3, 0, 0};
        for (int what = 0; what < 10; what++) {
            DUE.is("house(0, " + what + ") later", later[what], x.house(0, what));
        }
        DUE.is("VOTES that it has", 13, x.house(1, 8));
        DUE.is("VOTES of its own", 10, x.house(1, 7));
    }

    private static void untold() {
        DUE.about("LAWS not told");
        HerringShares x = Due.town("house a 20 50 3 1;");
        DUE.is("PRICE", 10, x.tells(0, 0));
        DUE.is("EATS", 0, x.tells(0, 1));
        DUE.is("ROTS", 0, x.tells(0, 2));
        DUE.is("GLUT", 5, x.tells(0, 3));
        DUE.is("VOTES", 20, x.house(0, 7));
        x = Due.town("price = 3; price = 4; votes = 1; house a 20 50 3 1; votes = 2;");
        DUE.is("the last PRICE", 4, x.tells(0, 0));
        DUE.is("the last VOTES", 2, x.house(0, 7));
    }

    private static void arithmetic() {
        votes(14, "2 + 3 * 4");
        votes(20, "(2 + 3) * 4");
        votes(3, "10 - 4 - 3");
        votes(2, "100 / 10 / 5");
        votes(50, "100 / 10 * 5");
        votes(3, "7 / 2");
        votes(97, "100 + (0 - 7) / 2");
        votes(107, "100 + (0 - 7) / (0 - 1)");
        votes(0, "0 - 5");
        votes(999, "9999");
        votes(1, "((((((1))))))");
        // 4,999,000,050 wraps to 704,032,754
        votes(704, "9999 * 9999 * 50 / 1000 / 1000");
        // 2147483647 + 1 wraps to the least int, and that by -1 is itself
        String least = "(2147 * 1000 * 1000 + 483 * 1000 + 647 + 1)";
        votes(1, "if " + least + " < 0 then 1 else 2");
        votes(1, "if " + least + " / (0 - 1) < 0 then 1 else 2");
        votes(7, "fish");
        votes(12, "all");
    }

    private static void conditions() {
        votes(1, "if 1 < 2 then 1 else 2");
        votes(2, "if 2 < 2 then 1 else 2");
        votes(2, "if 3 < 2 then 1 else 2");
        votes(1, "if 0 - 3 < 2 then 1 else 2");
        votes(3, "if 2 < 1 then 1 else if 2 < 2 then 2 else if 2 < 3 then 3 else if 1 < 2 then 4 else 5");
        votes(5, "if 2 < 1 then 1 else if 2 < 2 then 2 else if 3 < 3 then 3 else if 2 < 2 then 4 else 5");
        votes(10, "if fish < hunger then 9 else if all - fish < fish then fish + fear else 8");
    }

    /** As much as can wait at once: seven levels, a sum and a product in each, behind four ifs. */
    private static void deep() {
        String open = "1 + 2 * (".repeat(6);
        String deep = open + "1 + 2 * 3" + ")".repeat(6);
        // 7, and six times 1 and twice as much: 3, 7, 15 .. of 7: 15, 31, 63, 127, 255, 511
        votes(511, deep);
        String not = "if " + deep + " < " + deep + " then 1 else ";
        votes(511, not.repeat(2) + deep);
        String few = "if 1 + 2 * (1 + 2 * 3) < 1 + 2 * (1 + 2 * 3) then 1 else ";
        votes(511, few.repeat(4) + deep);
        votes(255, few.repeat(3) + "if " + deep + " < " + deep + " + 1 then " + deep + " - 256 else 1");
    }

    private static void dividedByZero() {
        votes(0, "5 / 0");
        votes(0, "5 + 5 / (fish - 7)");
        votes(0, "5 / (1 / 2) + 5");
        votes(0, "if 1 / 0 < 1 then 5 else 6");
        votes(0, "if 1 < 1 / 0 then 5 else 6");
        votes(0, "if 1 < 2 then 1 / 0 else 6");
        votes(5, "if 1 < 2 then 5 else 1 / 0");
        votes(6, "if 2 < 1 then 1 / 0 else 6");
        votes(5, "if 1 < 2 then 5 else if 1 / 0 < 1 then 1 else 2");
        votes(0, "if 2 < 1 then 5 else if 1 / 0 < 1 then 1 else 2");
        DUE.about("a PRICE divided by 0");
        DUE.is("PRICE", 1, Due.town("price = 50 / day;").tells(0, 0));
    }

    private static void held() {
        DUE.about("what LAWS are held to");
        DUE.is("PRICE low", 1, Due.town("price = 0;").tells(0, 0));
        DUE.is("PRICE below 0", 1, Due.town("price = 0 - 9;").tells(0, 0));
        DUE.is("PRICE 99", 99, Due.town("price = 99;").tells(0, 0));
        DUE.is("PRICE high", 99, Due.town("price = 100;").tells(0, 0));
        HerringShares x = Due.town("house a 7 0 0 0; eats = 8; rots = 8; glut = 100; votes = 1000;");
        x.salts(0, 3);
        DUE.is("EATS high", 7, x.tells(0, 1));
        DUE.is("ROTS high", 4, x.tells(0, 2));
        DUE.is("GLUT high", 99, x.tells(0, 3));
        DUE.is("VOTES high", 999, x.house(0, 7));
        x = Due.town("house a 7 0 0 0; eats = 0-1; rots = 0-1; glut = 0-1; votes = 0-1;");
        DUE.is("EATS low", 0, x.tells(0, 1));
        DUE.is("ROTS low", 0, x.tells(0, 2));
        DUE.is("GLUT low", 0, x.tells(0, 3));
        DUE.is("VOTES low", 0, x.house(0, 7));
    }

    private static void varsOfAHouse() {
        DUE.about("VARS of a HOUSE");
        String[] vars = {"fish", "all", "day", "hunger", "coins", "fear", "salted", "ate", "which"};
        int[] want = {15, 55, 3, 6, 8, 5, 4, 2, 1};
        for (int i = 0; i < vars.length; i++) {
            HerringShares x = Due.town("house a 40 9 1 2; house b 17 8 6 5; votes = " + vars[i] + ";");
            x.days(3);
            x.eat(1, 2);
            x.salts(1, 4);
            DUE.is("VOTES = " + vars[i], want[i], x.house(1, 7));
        }
        for (int i = 0; i < vars.length; i++) {
            HerringShares x = Due.town("house a 40 9 1 2; house b 17 8 6 5; eats = " + vars[i] + "; rots = "
                    + vars[i] + ";");
            x.eat(1, 2);
            x.salts(1, 4);
            int now = vars[i].equals("day") ? 0 : want[i];
            DUE.is("EATS = " + vars[i], Math.min(15, now), x.tells(1, 1));
            DUE.is("ROTS = " + vars[i], Math.min(11, now), x.tells(1, 2));
        }
    }

    private static void varsOfPriceAndGlut() {
        DUE.about("VARS of PRICE and GLUT");
        String[] vars = {"fish", "all", "day", "hunger", "coins", "fear", "salted", "ate", "which"};
        int[] price = {1, 53, 3, 1, 1, 1, 1, 4, 1};
        int[] glut = {15, 53, 3, 0, 0, 0, 0, 0, 1};
        for (int i = 0; i < vars.length; i++) {
            HerringShares x = Due.town("house a 40 9 1 2; house b 17 8 6 5; price = " + vars[i] + "; glut = "
                    + vars[i] + ";");
            x.days(3);
            x.eat(0, 2);
            x.eat(1, 2);
            x.salts(1, 4);
            DUE.is("PRICE = " + vars[i], price[i], x.tells(1, 0));
            DUE.is("GLUT = " + vars[i], glut[i], x.tells(1, 3));
        }
    }

    private static void wrongInputs() {
        DUE.about("no such ones");
        HerringShares x = Due.town("house a 7 30 4 3; house b 5 0 0 0;");
        int[] none = {-1, 2, 7, 99, Integer.MIN_VALUE, Integer.MAX_VALUE};
        for (int h : none) {
            for (int what = 0; what < 10; what++) {
                DUE.is("house(" + h + ", " + what + ")", -1, x.house(h, what));
            }
            DUE.is("tells(" + h + ", 0)", 10, x.tells(h, 0));
            for (int what = 1; what < 4; what++) {
                DUE.is("tells(" + h + ", " + what + ")", -1, x.tells(h, what));
            }
        }
        for (int what : new int[] {-2, -1, 10, Integer.MIN_VALUE, Integer.MAX_VALUE}) {
            DUE.is("house(0, " + what + ")", -1, x.house(0, what));
            DUE.is("tells(0, " + what + ")", -1, x.tells(0, what));
        }
        DUE.is("tells(0, 4)", -1, x.tells(0, 4));
    }
}
