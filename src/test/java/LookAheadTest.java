/** Promises 22 to 25 and 27 to 32: sell, salting, dearest, poorest, share, priceIn, then, allIn, deals, ruin. */
public final class LookAheadTest {
    private static final Due DUE = new Due();
    private static final int[] NONE_SUCH = {-1, 61, -2, Integer.MIN_VALUE, Integer.MAX_VALUE};

    public static void main(String[] args) {
        sells();
        saltings();
        saltingsBeyond();
        dearest();
        poorest();
        shares();
        inDays();
        deals();
        ruins();
        nothingHappens();
        spans();
        wrongInputs();
        DUE.end();
    }

    private static HerringShares four() {
        return Due.town("house a 20 50 3 1; house b 10 200 5 1; house c 6 8 2 2; house d 4 30 0 9;"
                + "price = 400 / all + ate; eats = hunger; rots = 2;");
    }

    private static void sells() {
        DUE.about("promise 22");
        HerringShares x = four();
        // a: 20 at 10, 15 at 28, 10 at 58, 5 at 99
        int[] day = {0, 1, 2, 2};
        int[] value = {200, 420, 580, 580};
        for (int n = 0; n < 4; n++) {
            DUE.is("sell(0, " + n + ", 0)", day[n], x.sell(0, n, 0));
            DUE.is("sell(0, " + n + ", 1)", value[n], x.sell(0, n, 1));
        }
        x.days(1);
        DUE.is("from day 1 on", 1, x.sell(0, 24, 0));
        DUE.is("from day 1 on", 580, x.sell(0, 24, 1));
        x = Due.town("house a 8 0 0 0; house b 0 0 0 0; price = 10 + day * (4 - day);");
        DUE.is("8 at 14 on day 2", 2, x.sell(0, 24, 0));
        DUE.is("no FISH: the first day", 0, x.sell(1, 24, 0));
        DUE.is("no FISH: nothing", 0, x.sell(1, 24, 1));
        x = Due.town("house a 12 0 0 0; price = 12 / all; eats = if day < 1 then 6 else 0;");
        DUE.is("12 at 1, 6 at 2: the first", 0, x.sell(0, 24, 0));
    }

    private static void saltings() {
        DUE.about("promise 23");
        HerringShares x = four();
        DUE.is("what is not eaten of 20", 17, x.salting(0, 1));
        DUE.is("what is not eaten of 4", 4, x.salting(3, 1));
        // two DAYS: a eats 6 and has 14 to keep; the first three eaten are not salted, the next may rot first
        DUE.is("of 20 in two DAYS", 17, x.salting(0, 2));
        x.salts(0, 10);
        DUE.is("ten are salted already", 7, x.salting(0, 1));
        x = Due.town("house a 20 0 3 0; house b 0 0 0 0; eats = hunger;");
        DUE.is("nothing rots", 0, x.salting(0, 24));
        DUE.is("no FISH", 0, x.salting(1, 24));
        x = Due.town("house a 20 0 0 0; rots = 1; salt 0;");
        DUE.is("without SALT, in a day", 20, x.salting(0, 1));
        x = Due.town("house a 20 0 0 0; eats = salted; rots = 30 - salted;");
        // all salted: all are eaten; none salted: all rot; both leave nothing
        DUE.is("what is salted is eaten", 0, x.salting(0, 1));
        x = Due.town("house a 20 0 0 0; eats = if salted < 20 then 0 else 5; rots = 6 - salted;");
        // all salted: 15 left; one salted: 5 rot
        DUE.is("the least that does", 1, x.salting(0, 1));
    }

    private static void saltingsBeyond() {
        DUE.about("promise 23, more than 99");
        HerringShares x = Due.town("house a 99 0 0 0; odds 100; glut = if day < 1 then 50 else 0; "
                + "rots = if day < 1 then 0 else 999;");
        x.days(1);
        DUE.is("FISH", 149, x.house(0, 0));
        DUE.is("149 were needed", -2, x.salting(0, 1));
        x.salts(0, 20);
        DUE.is("129 were needed", -2, x.salting(0, 1));
        x.undo();
        x = Due.town("house a 99 0 0 0; odds 100; glut = if day < 1 then 20 else 0; salt 999;"
                + "rots = if day < 1 then 0 else 999;");
        x.days(1);
        x.salts(0, 20);
        DUE.is("99 do", 99, x.salting(0, 24));
        x.undo();
        x.salts(0, 19);
        DUE.is("100 would", -2, x.salting(0, 24));
    }

    private static void dearest() {
        DUE.about("promise 24");
        HerringShares x = four();
        int[] high = {10, 28, 58, 99};
        for (int n = 0; n < 4; n++) {
            DUE.is("dearest(" + n + ", 0)", n, x.dearest(n, 0));
            DUE.is("dearest(" + n + ", 1)", high[n], x.dearest(n, 1));
        }
        DUE.is("the first of alike ones", 3, x.dearest(24, 0));
        x.days(2);
        DUE.is("from day 2 on", 1, x.dearest(24, 0));
        x = Due.town("price = 10 + day * (4 - day);");
        DUE.is("without HOUSES", 2, x.dearest(24, 0));
        DUE.is("without HOUSES", 14, x.dearest(24, 1));
    }

    private static void poorest() {
        DUE.about("promise 25");
        HerringShares x = four();
        int[] which = {3, 2, 1};
        int[] many = {4, 2, 0};
        for (int n = 0; n < 3; n++) {
            DUE.is("poorest(" + n + ", 0)", which[n], x.poorest(n, 0));
            DUE.is("poorest(" + n + ", 1)", many[n], x.poorest(n, 1));
        }
        DUE.is("the first of alike ones", 0, x.poorest(60, 0));
        HerringShares empty = new HerringShares();
        DUE.is("no HOUSES", -2, empty.poorest(0, 0));
        DUE.is("no HOUSES", -2, empty.poorest(60, 1));
        DUE.is("no HOUSES, no such n", -1, empty.poorest(61, 1));
    }

    private static void shares() {
        DUE.about("promise 27");
        HerringShares x = four();
        int[] want = {12, 20, 8, 0};
        for (int h = 0; h < 4; h++) {
            DUE.is("share(" + h + ")", want[h], x.share(h));
        }
        x.eat(0, 3);
        // 37 FISH: 11.1, 18.5, 7.4
        DUE.is("rounded down", 11, x.share(0));
        DUE.is("rounded down", 18, x.share(1));
        DUE.is("rounded down", 7, x.share(2));
        DUE.is("nobody is hungry", 0, Due.town("house a 5 5 0 5;").share(0));
        x = Due.town("house a 99 0 9 0; house b 99 0 8 0; odds 100; glut = 99;");
        x.days(60);
        x.days(60);
        DUE.is("many FISH", 10587, x.share(0));
    }

    private static void inDays() {
        DUE.about("promises 28 to 30");
        HerringShares x = four();
        // in four DAYS there are no FISH, and the PRICE is divided by 0
        int[] price = {10, 28, 58, 99, 1};
        int[] all = {40, 22, 10, 5, 0};
        int[] fish = {20, 15, 10, 5, 0};
        int[] ate = {0, 3, 6, 9, 12};
        for (int n = 0; n < 5; n++) {
            DUE.is("priceIn(" + n + ")", price[n], x.priceIn(n));
            DUE.is("allIn(" + n + ")", all[n], x.allIn(n));
            DUE.is("then(0, " + n + ", 0)", fish[n], x.then(0, n, 0));
            DUE.is("then(0, " + n + ", 1)", ate[n], x.then(0, n, 1));
        }
        x.salts(0, 18);
        x.eat(0, 1);
        int[] salted = {18, 16, 13, 10, 7, 4, 1, 0};
        for (int n = 0; n < 8; n++) {
            DUE.is("then(0, " + n + ", 2)", salted[n], x.then(0, n, 2));
        }
        DUE.is("more than was eaten so far", 3, x.then(0, 1, 1));
        DUE.is("in 60 DAYS", 0, x.allIn(60));
        DUE.is("a text without FISH", 10, new HerringShares().priceIn(60));
    }

    private static void deals() {
        DUE.about("promise 31");
        HerringShares x = four();
        // only c has less than 10 COINS; a and b are hungrier than it
        DUE.is("deals(0)", 2, x.deals(0));
        DUE.is("deals(1)", 20, x.deals(1));
        x = Due.town("house a 0 0 0 0; house b 1 9 3 0; house c 5 0 2 0; house d 0 10 3 0; house e 0 10 4 0;");
        // (b, e), (c, d), (c, e)
        DUE.is("deals(0)", 3, x.deals(0));
        DUE.is("deals(1)", 14, x.deals(1));
        x.eat(1, 1);
        DUE.is("deals(0)", 2, x.deals(0));
        DUE.is("deals(1)", 23, x.deals(1));
        x.eat(2, 5);
        DUE.is("none", 0, x.deals(0));
        DUE.is("none", -2, x.deals(1));
        DUE.is("without HOUSES", 0, new HerringShares().deals(0));
        DUE.is("without HOUSES", -2, new HerringShares().deals(1));
        for (int what : new int[] {-1, 2, Integer.MIN_VALUE, Integer.MAX_VALUE}) {
            DUE.is("deals(" + what + ")", -1, x.deals(what));
        }
    }

    private static void ruins() {
        DUE.about("promise 32");
        // LOTS of day 0 by SEEDS 9998 on: 11, 19, 22, 43, 92, 20, 84, 88; of day 1: 12, 88, 13, 76, 72, 53, 77, 99
        HerringShares x = Due.town("house a 0 0 0 0; odds 22; seed 9998; glut = 1; eats = fish;");
        int[] one = {0, 0, 1, 2, 3, 3, 4, 5};
        int[] two = {0, 1, 1, 2, 3, 4, 5, 6};
        for (int s = 1; s <= 8; s++) {
            DUE.is("ruin(0, 1, " + s + ")", one[s - 1], x.ruin(0, 1, s));
            DUE.is("ruin(0, 2, " + s + ")", two[s - 1], x.ruin(0, 2, s));
            DUE.is("ruin(0, 0, " + s + ")", s, x.ruin(0, 0, s));
        }
        x = Due.town("house a 9 0 3 0; house b 9 0 2 0; eats = hunger;");
        DUE.is("no chance", 20, x.ruin(0, 3, 20));
        DUE.is("no chance", 0, x.ruin(1, 3, 20));
        DUE.is("the SEED stays", 0, x.count(13));
    }

    private static void nothingHappens() {
        DUE.about("what would be");
        HerringShares x = four();
        x.salts(0, 3);
        x.sell(0, 24, 0);
        x.salting(0, 24);
        x.dearest(24, 0);
        x.poorest(60, 0);
        x.priceIn(60);
        x.then(0, 60, 0);
        x.allIn(60);
        x.ruin(0, 60, 20);
        DUE.is("the day", 0, x.count(3));
        DUE.is("FISH of all", 40, x.count(4));
        DUE.is("eaten", 0, x.count(6));
        DUE.is("salted", 3, x.count(14));
        DUE.is("SALT", 17, x.count(7));
        DUE.is("can be undone", 1, x.count(9));
    }

    private static void spans() {
        DUE.about("spans of days");
        HerringShares x = four();
        DUE.is("sell(0, 25, 0)", -1, x.sell(0, 25, 0));
        DUE.is("dearest(25, 0)", -1, x.dearest(25, 0));
        DUE.is("salting(0, 25)", -1, x.salting(0, 25));
        DUE.is("salting(0, 0)", -1, x.salting(0, 0));
        DUE.is("ruin(0, 60, 20)", 20, x.ruin(0, 60, 20));
        DUE.is("ruin(0, 60, 21)", -1, x.ruin(0, 60, 21));
        DUE.is("ruin(0, 60, 0)", -1, x.ruin(0, 60, 0));
        for (int n : NONE_SUCH) {
            DUE.is("sell(0, " + n + ", 0)", -1, x.sell(0, n, 0));
            DUE.is("salting(0, " + n + ")", -1, x.salting(0, n));
            DUE.is("dearest(" + n + ", 0)", -1, x.dearest(n, 0));
            DUE.is("poorest(" + n + ", 0)", -1, x.poorest(n, 0));
            DUE.is("priceIn(" + n + ")", -1, x.priceIn(n));
            DUE.is("then(0, " + n + ", 0)", -1, x.then(0, n, 0));
            DUE.is("allIn(" + n + ")", -1, x.allIn(n));
            DUE.is("ruin(0, " + n + ", 1)", -1, x.ruin(0, n, 1));
            DUE.is("ruin(0, 1, " + n + ")", -1, x.ruin(0, 1, n));
        }
    }

    private static void wrongInputs() {
        DUE.about("no such ones");
        HerringShares x = four();
        for (int h : new int[] {-1, 4, 7, Integer.MIN_VALUE, Integer.MAX_VALUE}) {
            DUE.is("sell(" + h + ", 1, 0)", -1, x.sell(h, 1, 0));
            DUE.is("sell(0, 1, " + h + ")", -1, x.sell(0, 1, h));
            DUE.is("salting(" + h + ", 1)", -1, x.salting(h, 1));
            DUE.is("dearest(1, " + h + ")", -1, x.dearest(1, h));
            DUE.is("poorest(1, " + h + ")", -1, x.poorest(1, h));
            DUE.is("share(" + h + ")", -1, x.share(h));
            DUE.is("then(" + h + ", 1, 0)", -1, x.then(h, 1, 0));
            DUE.is("then(0, 1, " + h + ")", -1, x.then(0, 1, h));
            DUE.is("ruin(" + h + ", 1, 1)", -1, x.ruin(h, 1, 1));
        }
        DUE.is("sell(0, 1, 2)", -1, x.sell(0, 1, 2));
        DUE.is("dearest(1, 2)", -1, x.dearest(1, 2));
        DUE.is("poorest(1, 2)", -1, x.poorest(1, 2));
        DUE.is("then(0, 1, 3)", -1, x.then(0, 1, 3));
    }
}
