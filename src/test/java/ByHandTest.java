/** Promises 8 to 13: buy, eat, salts, proxy, days, undo. */
public final class ByHandTest {
    private static final Due DUE = new Due();
    private static final int[] NO_HOUSES = {-1, 3, -2, Integer.MIN_VALUE, Integer.MAX_VALUE};
    private static final int[] NO_AMOUNTS = {0, -1, 100, Integer.MIN_VALUE, Integer.MAX_VALUE};

    public static void main(String[] args) {
        buys();
        buysSalted();
        buysNot();
        buysUpToTheMost();
        eats();
        salts();
        proxies();
        proxiesNot();
        daysEatAndRot();
        daysByHowTheyBegan();
        gluts();
        mostFish();
        daysNot();
        undoes();
        undoesTheLastForty();
        DUE.end();
    }

    private static HerringShares three() {
        return Due.town("house a 20 50 3 1; house b 10 200 5 1; house c 6 8 2 2; price = 400 / all + ate; salt 30;");
    }

    private static void state(HerringShares x, int house, int fish, int coins, int salted) {
        DUE.is("FISH of " + house, fish, x.house(house, 0));
        DUE.is("COINS of " + house, coins, x.house(house, 1));
        DUE.is("salted ones of " + house, salted, x.house(house, 4));
    }

    private static void buys() {
        DUE.about("promise 8");
        HerringShares x = three();
        DUE.is("buy(1, 0, 5)", 55, x.buy(1, 0, 5));
        state(x, 0, 15, 105, 0);
        state(x, 1, 15, 145, 0);
        DUE.is("count(9)", 1, x.count(9));
        DUE.is("all FISH that it has", 66, x.buy(0, 2, 6));
        state(x, 2, 0, 74, 0);
    }

    private static void buysSalted() {
        DUE.about("promise 8, salted ones");
        HerringShares x = three();
        x.salts(0, 15);
        DUE.is("buy(1, 0, 3)", 33, x.buy(1, 0, 3));
        state(x, 0, 17, 83, 15);
        state(x, 1, 13, 167, 0);
        DUE.is("buy(1, 0, 6)", 66, x.buy(1, 0, 6));
        state(x, 0, 11, 149, 11);
        state(x, 1, 19, 101, 4);
    }

    private static void buysNot() {
        DUE.about("promise 8, not");
        HerringShares x = three();
        DUE.is("FISH", -2, x.buy(1, 2, 7));
        DUE.is("COINS", -2, x.buy(0, 1, 5));
        DUE.is("COINS that do", 44, x.buy(0, 1, 4));
        x.undo();
        HerringShares y = Due.town("house a 1 30 0 0; house b 9 0 0 0; house c 9 29 0 0;");
        DUE.is("COINS that do not by one", -2, y.buy(2, 1, 3));
        DUE.is("COINS that just do", 30, y.buy(0, 1, 3));
        DUE.is("none is left", -2, y.buy(0, 1, 1));
        for (int h : NO_HOUSES) {
            DUE.is("buy(" + h + ", 0, 1)", -1, x.buy(h, 0, 1));
            DUE.is("buy(0, " + h + ", 1)", -1, x.buy(0, h, 1));
        }
        for (int n : NO_AMOUNTS) {
            DUE.is("buy(1, 0, " + n + ")", -1, x.buy(1, 0, n));
        }
        DUE.is("of itself", -1, x.buy(1, 1, 1));
        state(x, 0, 20, 50, 0);
        state(x, 1, 10, 200, 0);
        DUE.is("count(9)", 0, x.count(9));
    }

    private static void buysUpToTheMost() {
        DUE.about("promise 8, 9,999");
        HerringShares x = Due.town("house a 0 999 0 0; house b 99 0 0 0; odds 100; glut = 99; price = 1;");
        x.days(60);
        x.days(40);
        // 9900 of a, 9999 of b
        DUE.is("FISH of a", 9900, x.house(0, 0));
        DUE.is("FISH of b", 9999, x.house(1, 0));
        DUE.is("as many as can be", 98, x.buy(0, 1, 98));
        DUE.is("two more", -2, x.buy(0, 1, 2));
        DUE.is("one more", 1, x.buy(0, 1, 1));
        DUE.is("FISH of a", 9999, x.house(0, 0));
        DUE.is("and one", -2, x.buy(0, 1, 1));
        coinsUpToTheMost();
    }

    private static void coinsUpToTheMost() {
        // seven HOUSES have 6,993 COINS in all: more than 9,999 cannot come together
        HerringShares x = Due.town("house a 99 999 0 0; house b 0 999 0 0; house c 0 999 0 0; price = 99;");
        DUE.is("990 COINS", 990, x.buy(1, 0, 10));
        DUE.is("990 more", 990, x.buy(2, 0, 10));
        DUE.is("COINS of a", 2979, x.house(0, 1));
    }

    private static void eats() {
        DUE.about("promise 9");
        HerringShares x = three();
        x.salts(0, 8);
        DUE.is("eat(0, 5)", 15, x.eat(0, 5));
        state(x, 0, 15, 50, 8);
        DUE.is("eat(0, 9)", 6, x.eat(0, 9));
        state(x, 0, 6, 50, 6);
        DUE.is("ate", 14, x.house(0, 5));
        DUE.is("PRICE, 22 FISH, 14 eaten", 32, x.tells(0, 0));
        DUE.is("not so many", -2, x.eat(0, 7));
        DUE.is("all", 0, x.eat(0, 6));
        DUE.is("none", -2, x.eat(0, 1));
        for (int h : NO_HOUSES) {
            DUE.is("eat(" + h + ", 1)", -1, x.eat(h, 1));
        }
        for (int n : NO_AMOUNTS) {
            DUE.is("eat(1, " + n + ")", -1, x.eat(1, n));
        }
        DUE.is("count(9)", 4, x.count(9));
    }

    private static void salts() {
        DUE.about("promise 10");
        HerringShares x = three();
        DUE.is("salts(0, 12)", 18, x.salts(0, 12));
        DUE.is("not so many that are not salted", -2, x.salts(0, 9));
        DUE.is("salts(0, 8)", 10, x.salts(0, 8));
        state(x, 0, 20, 50, 20);
        DUE.is("salts(1, 10)", 0, x.salts(1, 10));
        DUE.is("not so much SALT", -2, x.salts(2, 1));
        DUE.is("count(14)", 30, x.count(14));
        for (int h : NO_HOUSES) {
            DUE.is("salts(" + h + ", 1)", -1, x.salts(h, 1));
        }
        for (int n : NO_AMOUNTS) {
            DUE.is("salts(1, " + n + ")", -1, x.salts(1, n));
        }
        DUE.is("count(9)", 3, x.count(9));
    }

    private static void proxies() {
        DUE.about("promise 11");
        HerringShares x = three();
        DUE.is("gives", true, x.proxy(0, 1));
        DUE.is("to whom", 1, x.house(0, 6));
        DUE.is("has", 0, x.house(0, 8));
        DUE.is("its own", 20, x.house(0, 7));
        DUE.is("the other has", 30, x.house(1, 8));
        DUE.is("gives to the same one", true, x.proxy(2, 1));
        DUE.is("the other has", 36, x.house(1, 8));
        DUE.is("takes back", true, x.proxy(0, -1));
        DUE.is("to whom", -2, x.house(0, 6));
        DUE.is("the other has", 16, x.house(1, 8));
        DUE.is("gives to a third one instead", true, x.proxy(2, 0));
        DUE.is("to whom", 0, x.house(2, 6));
        DUE.is("he who has none now gives", true, x.proxy(1, 0));
        DUE.is("has all", 36, x.house(0, 8));
        DUE.is("count(9)", 5, x.count(9));
    }

    private static void proxiesNot() {
        DUE.about("promise 11, not");
        HerringShares x = three();
        DUE.is("nothing to take back", false, x.proxy(0, -1));
        DUE.is("to himself", false, x.proxy(0, 0));
        for (int h : NO_HOUSES) {
            DUE.is("proxy(" + h + ", 0)", false, x.proxy(h, 0));
            DUE.is("proxy(" + h + ", -1)", false, x.proxy(h, -1));
            DUE.is("proxy(0, " + h + ")", false, x.proxy(0, h));
        }
        DUE.is("gives", true, x.proxy(0, 1));
        DUE.is("it is so", false, x.proxy(0, 1));
        DUE.is("he has one", false, x.proxy(1, 2));
        DUE.is("he has one", false, x.proxy(1, 0));
        DUE.is("the other one gave his", false, x.proxy(2, 0));
        DUE.is("he has one, nothing to take back", false, x.proxy(1, -1));
        DUE.is("count(9)", 1, x.count(9));
    }

    private static void daysEatAndRot() {
        DUE.about("promise 12");
        HerringShares x = Due.town("house a 20 0 3 0; house b 9 0 6 0; eats = hunger; rots = 4;");
        x.salts(0, 10);
        x.salts(1, 5);
        DUE.is("days(1)", 1, x.days(1));
        // a: 20 less 3, less 4 of 7 not salted; b: 9 less 6 (two of them salted), none left to rot
        state(x, 0, 13, 0, 10);
        state(x, 1, 3, 0, 3);
        DUE.is("eaten by all", 9, x.count(6));
        DUE.is("days(2)", 3, x.days(2));
        // a: eats 3, nothing rots: 10, 10 salted; then 7
        state(x, 0, 7, 0, 7);
        state(x, 1, 0, 0, 0);
        DUE.is("ate", 9, x.house(0, 5));
        DUE.is("ate", 9, x.house(1, 5));
    }

    private static void daysByHowTheyBegan() {
        DUE.about("promise 12, by how all was");
        // both EAT by 30 FISH of all: 3 each; ROTS by the 24 left: 2 each, and by what was eaten that day
        HerringShares x = Due.town("house a 20 0 0 0; house b 10 0 0 0; eats = all / 10; rots = all / 12;");
        x.days(1);
        state(x, 0, 15, 0, 0);
        state(x, 1, 5, 0, 0);
        x = Due.town("house a 20 0 0 0; eats = 4; rots = ate;");
        x.days(1);
        state(x, 0, 12, 0, 0);
        x.days(1);
        // eats 4: 8 left, and 8 eaten in all rot away
        state(x, 0, 0, 0, 0);
        x = Due.town("house a 20 0 0 0; eats = day; rots = day * 10;");
        x.days(1);
        state(x, 0, 20, 0, 0);
        x.days(1);
        state(x, 0, 9, 0, 0);
        x = Due.town("house a 20 0 0 0; house b 4 0 0 0; eats = 4; rots = 6; glut = fish + all; odds 100;");
        x.days(1);
        // GLUT by 20 and 4 FISH of 24, though it comes last
        state(x, 0, 10 + 44, 0, 0);
        state(x, 1, 28, 0, 0);
    }

    private static void gluts() {
        DUE.about("LOT");
        // LOTS 100 of SEED 0: 22, 99, 81, 18, 75, 8, 26; of SEED 7: 4, 93, 62, 71, 3; of SEED 9999: 19, 88, 58, 23
        int[][] seeds = {{0, 22, 99, 81, 18, 75, 8, 26}, {7, 4, 93, 62, 71, 3}, {9999, 19, 88, 58, 23}};
        for (int[] lots : seeds) {
            for (int day = 0; day < lots.length - 1; day++) {
                HerringShares under = Due.town("seed " + lots[0] + "; odds " + lots[day + 1] + ";");
                HerringShares over = Due.town("seed " + lots[0] + "; odds " + (lots[day + 1] + 1) + ";");
                under.days(day);
                over.days(day);
                DUE.is("no glut, SEED " + lots[0] + " day " + day, 0, under.count(13));
                DUE.is("a glut, SEED " + lots[0] + " day " + day, 1, over.count(13));
            }
        }
        HerringShares x = Due.town("house a 0 0 0 0; house b 1 0 0 0; odds 50; glut = 3 + which;");
        int[] fish = {3, 3, 3, 6, 6, 9, 12};
        for (int day = 0; day < fish.length; day++) {
            x.days(1);
            DUE.is("FISH on day " + (day + 1), fish[day], x.house(0, 0));
            DUE.is("FISH on day " + (day + 1), 1 + fish[day] / 3 * 4, x.house(1, 0));
        }
    }

    private static void mostFish() {
        DUE.about("9,999 FISH");
        HerringShares x = Due.town("house a 98 0 0 0; odds 100; glut = 99;");
        x.days(60);
        x.days(40);
        DUE.is("FISH", 9998, x.house(0, 0));
        x.days(1);
        DUE.is("FISH", 9999, x.house(0, 0));
        x.days(60);
        DUE.is("FISH", 9999, x.house(0, 0));
    }

    private static void daysNot() {
        DUE.about("promise 12, not");
        HerringShares x = three();
        DUE.is("days(0)", 0, x.days(0));
        DUE.is("count(9)", 0, x.count(9));
        DUE.is("days(60)", 60, x.days(60));
        DUE.is("days(0)", 60, x.days(0));
        for (int n : new int[] {-1, 61, Integer.MIN_VALUE, Integer.MAX_VALUE}) {
            DUE.is("days(" + n + ")", -1, x.days(n));
        }
        DUE.is("the day", 60, x.count(3));
        DUE.is("count(9)", 1, x.count(9));
    }

    private static void undoes() {
        DUE.about("promise 13");
        HerringShares x = Due.town("house a 20 50 3 1; house b 10 200 5 1; eats = 1; rots = 1; salt 30;");
        x.buy(1, 0, 5);
        x.salts(0, 7);
        x.eat(0, 10);
        x.proxy(0, 1);
        x.days(3);
        DUE.is("the day", 3, x.count(3));
        DUE.is("undo days", true, x.undo());
        DUE.is("the day", 0, x.count(3));
        state(x, 0, 5, 100, 5);
        DUE.is("to whom", 1, x.house(0, 6));
        DUE.is("undo proxy", true, x.undo());
        DUE.is("to whom", -2, x.house(0, 6));
        DUE.is("undo eat", true, x.undo());
        state(x, 0, 15, 100, 7);
        DUE.is("ate", 0, x.house(0, 5));
        DUE.is("SALT", 23, x.count(7));
        DUE.is("undo salts", true, x.undo());
        DUE.is("SALT", 30, x.count(7));
        state(x, 0, 15, 100, 0);
        DUE.is("undo buy", true, x.undo());
        state(x, 0, 20, 50, 0);
        state(x, 1, 10, 200, 0);
        DUE.is("nothing left", false, x.undo());
        x.eat(0, 99);
        x.days(0);
        x.proxy(0, 0);
        DUE.is("nothing was done", false, x.undo());
    }

    private static void undoesTheLastForty() {
        DUE.about("promise 13, the last 40");
        HerringShares x = Due.town("house a 99 0 0 0;");
        for (int i = 1; i <= 45; i++) {
            x.eat(0, 1);
            DUE.is("count(9)", Math.min(40, i), x.count(9));
        }
        for (int i = 39; i >= 0; i--) {
            DUE.is("undo", true, x.undo());
            DUE.is("count(9)", i, x.count(9));
            DUE.is("FISH", 94 - i, x.house(0, 0));
        }
        DUE.is("no more", false, x.undo());
        DUE.is("FISH", 94, x.house(0, 0));
        x.eat(0, 4);
        DUE.is("undo", true, x.undo());
        DUE.is("FISH", 94, x.house(0, 0));
    }
}
