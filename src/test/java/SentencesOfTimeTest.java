/** What would be in so many days, promises 22 to 25 and 27 to 32: a method for each sentence that bounds something. */
public final class SentencesOfTimeTest {
    private static final Due DUE = new Due();
    private static final int LEAST = Sentence.LEAST;
    private static final int MOST = Sentence.MOST;
    private static final int[] NO_WHATS = {-1, -2, 2, 3, LEAST, MOST};
    private static final int[] NO_LOOKS = {-1, -2, 25, 26, 60, LEAST, MOST};
    private static final int[] NO_SPANS = {-1, -2, 61, 62, LEAST, MOST};

    public static void main(String[] args) {
        nothingHappens();
        asItComes();
        glutsByTheSeed();
        sellWithin0To24();
        sellAsManyAsItHasThen();
        sellTheFirstOfAlike();
        sellDayCountsFromThisOne();
        sellNoSuchOnes();
        saltingFor1To24();
        saltingTheLeast();
        saltingNoMoreThanAreNotSalted();
        saltingUpTo99();
        saltingSaltIsNotLookedAt();
        saltingNoLessThanIfAllWereSalted();
        saltingNoSuchOnes();
        dearestWithin0To24();
        dearestTheFirstOfAlike();
        dearestNoSuchOnes();
        poorestFewest();
        poorestTheFirstOfAlike();
        poorestNoHouses();
        poorestNoSuchOnes();
        shareRoundedDown();
        shareNobodyIsHungry();
        shareNoSuchHouse();
        priceInDays();
        priceInNoSuchN();
        thenInDays();
        thenNoSuchOnes();
        allInDays();
        allInNoSuchN();
        dealsOfTheFirstOne();
        dealsOfTheOtherOne();
        dealsLeastFirst();
        dealsNone();
        dealsNoneForOthers();
        ruinBySeeds();
        ruinHasNoFish();
        ruinNoSuchOnes();
        DUE.end();
    }

    /** A town that changes every day. */
    private static HerringShares busy() {
        return Due.town("house a 90 50 3 1;house b 40 200 5 1;price=day*7+1;eats=hunger-1;rots=2;glut=fish/10;odds 50;");
    }

    private static void nothingHappens() {
        DUE.about("III: What would be (nothing happens)");
        HerringShares x = busy();
        x.salts(0, 3);
        x.days(2);
        String was = Sentence.all(x);
        x.sell(0, 24, 0);
        x.salting(0, 24);
        x.dearest(24, 1);
        x.poorest(60, 0);
        x.share(0);
        x.priceIn(60);
        x.then(0, 60, 0);
        x.allIn(60);
        x.deals(0);
        x.ruin(0, 60, 20);
        DUE.is("all is as it was", true, Sentence.same(was, x));
    }

    private static void asItComes() {
        DUE.about("IN n DAYS: as it comes when DAYS go by");
        for (String var : new String[] {"fish", "all", "day", "hunger", "coins", "fear", "salted", "ate", "which"}) {
            HerringShares x = Due.town("house a 90 50 3 1;house b 40 200 5 2;house c 9 7 0 0;price=all+ate+day;eats=" + var
                    + "/3;rots=" + var + "/4;glut=" + var + ";odds 50;seed 7;");
            x.days(2);
            x.buy(1, 0, 1);
            x.salts(0, 7);
            x.salts(1, 5);
            x.hold(0);
            for (int n : new int[] {0, 1, 2, 5, 60}) {
                int[] would = {x.priceIn(n), x.allIn(n), x.then(0, n, 0), x.then(1, n, 0), x.then(1, n, 1), x.then(1, n, 2),
                    x.poorest(n, 1), x.ruin(2, n, 1)};
                int ate = x.house(1, 5);
                x.days(n);
                int fewest = Math.min(x.house(0, 0), Math.min(x.house(1, 0), x.house(2, 0)));
                int[] is = {x.tells(0, 0), x.count(4), x.house(0, 0), x.house(1, 0), x.house(1, 5) - ate, x.house(1, 4),
                    fewest, x.house(2, 0) == 0 ? 1 : 0};
                for (int i = 0; i < is.length; i++) {
                    DUE.is(var + ", in " + n + " DAYS, " + i, is[i], would[i]);
                }
                x.restore(0);
            }
        }
    }

    private static void glutsByTheSeed() {
        DUE.about("What would be: gluts by the text's SEED");
        for (int seed : new int[] {0, 7, 4321, 9999}) {
            HerringShares x = Due.town("house a 20 0 0 0;price=all;glut=4;odds 50;eats=3;seed " + seed + ";");
            int fish = 20;
            int best = 400;
            int dear = 20;
            for (int n = 1; n <= 24; n++) {
                fish = Math.max(0, fish - 3) + (Sentence.lot(100, seed, 4 * (n - 1)) < 50 ? 4 : 0);
                int price = Math.max(1, fish);
                best = Math.max(best, fish * price);
                dear = Math.max(dear, price);
                DUE.is("SEED " + seed + ", priceIn(" + n + ")", price, x.priceIn(n));
                DUE.is("SEED " + seed + ", allIn(" + n + ")", fish, x.allIn(n));
                DUE.is("SEED " + seed + ", then(0, " + n + ", 0)", fish, x.then(0, n, 0));
                DUE.is("SEED " + seed + ", poorest(" + n + ", 1)", fish, x.poorest(n, 1));
                DUE.is("SEED " + seed + ", sell(0, " + n + ", 1)", best, x.sell(0, n, 1));
                DUE.is("SEED " + seed + ", dearest(" + n + ", 1)", dear, x.dearest(n, 1));
            }
        }
        for (int seed = 0; seed < 40; seed++) {
            // FISH of a glut on day 0 keep the 5 from rotting on day 1
            HerringShares x = Due.town("house a 5 0 0 0;glut=4;odds 50;rots=if day<1 then 0 else 9-all;seed " + seed + ";");
            boolean glut = Sentence.lot(100, seed, 0) < 50;
            DUE.is("SEED " + seed + ", salting(0, 2)", glut ? 0 : 5, x.salting(0, 2));
            x = Due.town("house a 5 0 0 0;price=if all<6 then 50-day else 60+day;glut=4;odds 50;seed " + seed + ";");
            DUE.is("SEED " + seed + ", dearest(1, 0)", glut ? 1 : 0, x.dearest(1, 0));
            DUE.is("SEED " + seed + ", sell(0, 1, 0)", glut ? 1 : 0, x.sell(0, 1, 0));
        }
    }

    private static void sellWithin0To24() {
        DUE.about("SELL within n days (0 .. 24)");
        HerringShares x = Due.town("house a 10 0 0 0;price=day+1;");
        for (int n = 0; n <= 24; n++) {
            DUE.is("sell(0, " + n + ", 0)", n, x.sell(0, n, 0));
            DUE.is("sell(0, " + n + ", 1)", 10 * (n + 1), x.sell(0, n, 1));
        }
        for (int n : NO_LOOKS) {
            DUE.is("sell(0, " + n + ", 0)", -1, x.sell(0, n, 0));
            DUE.is("sell(0, " + n + ", 1)", -1, x.sell(0, n, 1));
        }
    }

    private static void sellAsManyAsItHasThen() {
        DUE.about("SELL: the FISH of a HOUSE, as many as it has then, bring most at that day's PRICE");
        // 10 at 5, 8 at 7, 6 at 9, 4 at 11
        HerringShares x = Due.town("house a 10 0 0 0;price=5+2*day;eats=2;");
        DUE.is("day", 1, x.sell(0, 3, 0));
        DUE.is("how much", 56, x.sell(0, 3, 1));
        HerringShares most = Due.town("house a 99 0 0 0;odds 100;glut=99;price=99;");
        most.days(60);
        most.days(60);
        DUE.is("as much as can be", 9999 * 99, most.sell(0, 24, 1));
    }

    private static void sellTheFirstOfAlike() {
        DUE.about("SELL: of alike ones the first");
        DUE.is("each day alike", 0, Due.town("house a 10 0 0 0;").sell(0, 24, 0));
        DUE.is("12 at 1, 6 at 2", 0, Due.town("house a 12 0 0 0;price=12/all;eats=6;").sell(0, 1, 0));
        DUE.is("no FISH", 0, Due.town("house a 0 0 0 0;price=day;").sell(0, 24, 0));
        DUE.is("no FISH", 0, Due.town("house a 0 0 0 0;price=day;").sell(0, 24, 1));
        DUE.is("days 2 and 4", 2, Due.town("house a 5 0 0 0;price=9-(day-3)*(day-3)*(day-3)*(day-3)"
                + "+2*(day-3)*(day-3);").sell(0, 24, 0));
    }

    private static void sellDayCountsFromThisOne() {
        DUE.about("22: the day (0: this one)");
        HerringShares x = Due.town("house a 5 0 0 0;price=if day<7 then 1 else if day<8 then 9 else 2;");
        DUE.is("from day 0", 7, x.sell(0, 24, 0));
        x.days(3);
        DUE.is("from day 3", 4, x.sell(0, 24, 0));
        x.days(4);
        DUE.is("from day 7", 0, x.sell(0, 24, 0));
        x.days(1);
        DUE.is("from day 8", 0, x.sell(0, 24, 0));
    }

    private static void sellNoSuchOnes() {
        DUE.about("22: NONE: no such ones");
        HerringShares x = busy();
        DUE.is("sell(2, 1, 0)", -1, x.sell(2, 1, 0));
        for (int h : Sentence.NO_HOUSES) {
            DUE.is("sell(" + h + ", 1, 0)", -1, x.sell(h, 1, 0));
        }
        for (int what : NO_WHATS) {
            DUE.is("sell(0, 1, " + what + ")", -1, x.sell(0, 1, what));
        }
        DUE.is("without HOUSES", -1, new HerringShares().sell(0, 1, 0));
    }

    private static void saltingFor1To24() {
        DUE.about("SALTING of a HOUSE for n days (1 .. 24)");
        // all rots on day 24, which is the 24th from day 1 on
        HerringShares x = Due.town("house a 30 0 0 0;rots=if day<24 then 0 else 99;");
        x.days(1);
        DUE.is("23 days without ROTS", 0, x.salting(0, 23));
        DUE.is("on the 24th all would", 30, x.salting(0, 24));
        DUE.is("1 day", 0, x.salting(0, 1));
        for (int n : NO_LOOKS) {
            DUE.is("salting(0, " + n + ")", -1, x.salting(0, n));
        }
        DUE.is("salting(0, 0)", -1, x.salting(0, 0));
    }

    private static void saltingTheLeast() {
        DUE.about("SALTING: the least (0 ..) to be SALTED now");
        DUE.is("nothing rots", 0, Due.town("house a 20 0 0 0;").salting(0, 24));
        DUE.is("all but what is eaten", 17, Due.town("house a 20 0 0 0;eats=3;rots=1;").salting(0, 1));
        DUE.is("no FISH", 0, Due.town("house a 0 0 0 0;rots=9;").salting(0, 24));
        DUE.is("all", 20, Due.town("house a 20 0 0 0;rots=1;").salting(0, 1));
        DUE.is("one is enough", 1, Due.town("house a 20 0 0 0;rots=1-salted;").salting(0, 1));
        // no less with 5 or with 20 salted, and 5 is the least
        DUE.is("five are enough", 5, Due.town("house a 20 0 0 0;rots=if salted<5 then 9 else 0;").salting(0, 24));
    }

    private static void saltingNoMoreThanAreNotSalted() {
        DUE.about("SALTING: no more than are not salted");
        HerringShares x = Due.town("house a 20 0 0 0;rots=1;salt 20;");
        x.salts(0, 13);
        DUE.is("7 of 7", 7, x.salting(0, 1));
        x.salts(0, 7);
        DUE.is("all are salted", 0, x.salting(0, 1));
    }

    private static HerringShares plenty(int fish, int salted) {
        HerringShares x = Due.town("house a 99 0 0 0;odds 100;glut=if day<1 then " + (fish - 99) + " else 0;salt 999;"
                + "rots=if day<1 then 0 else 1;");
        x.days(1);
        if (salted > 0) {
            x.salts(0, salted);
        }
        return x;
    }

    private static void saltingUpTo99() {
        DUE.about("SALTING: (0 .. 99); 23: -2: not");
        DUE.is("99 of 99", 99, plenty(99, 0).salting(0, 1));
        DUE.is("100 of 100", -2, plenty(100, 0).salting(0, 1));
        DUE.is("99 of 100, one is salted", 99, plenty(100, 1).salting(0, 1));
        DUE.is("100 of 150", -2, plenty(150, 50).salting(0, 1));
        DUE.is("99 of 150", 99, plenty(150, 51).salting(0, 1));
        // 149 not salted, but fewer are enough
        HerringShares x = Due.town("house a 99 0 0 0;odds 100;glut=if day<1 then 50 else 0;"
                + "rots=if day<1 then 0 else 40-salted;");
        x.days(1);
        DUE.is("40 of 149", 40, x.salting(0, 1));
    }

    private static void saltingSaltIsNotLookedAt() {
        DUE.about("SALTING: (SALT there is not looked at)");
        DUE.is("no SALT", 20, Due.town("house a 20 0 0 0;rots=1;salt 0;").salting(0, 1));
        HerringShares x = Due.town("house a 20 0 0 0;rots=1;salt 5;");
        DUE.is("5 SALT", 20, x.salting(0, 1));
        DUE.is("SALT", 5, x.count(7));
    }

    private static void saltingNoLessThanIfAllWereSalted() {
        DUE.about("SALTING: so that it has no less FISH behind them than if all its FISH were salted now");
        // all salted: all 20 are eaten, and none salted leaves more
        DUE.is("more is no less", 0, Due.town("house a 20 0 0 0;eats=salted;rots=1;").salting(0, 1));
        // all salted leaves 15; none: 20 - 9; four: 20 - 5
        DUE.is("just as many", 4, Due.town("house a 20 0 0 0;eats=if salted<20 then 0 else 5;rots=9-salted;").salting(0, 1));
        // b eats and keeps what it has, a rots
        DUE.is("the HOUSE's own FISH", 6, Due.town("house a 6 0 0 0;house b 9 0 0 0;eats=which;rots=1-which;").salting(0, 3));
    }

    private static void saltingNoSuchOnes() {
        DUE.about("23: NONE: no such ones");
        HerringShares x = busy();
        DUE.is("salting(2, 1)", -1, x.salting(2, 1));
        for (int h : Sentence.NO_HOUSES) {
            DUE.is("salting(" + h + ", 1)", -1, x.salting(h, 1));
        }
        DUE.is("without HOUSES", -1, new HerringShares().salting(0, 1));
    }

    private static void dearestWithin0To24() {
        DUE.about("DEAREST within n days (0 .. 24): the day with the highest PRICE; how high");
        HerringShares x = Due.town("price=day+1;");
        for (int n = 0; n <= 24; n++) {
            DUE.is("dearest(" + n + ", 0)", n, x.dearest(n, 0));
            DUE.is("dearest(" + n + ", 1)", n + 1, x.dearest(n, 1));
        }
        x.days(5);
        DUE.is("(0: this one)", 0, x.dearest(0, 0));
        DUE.is("from day 5", 30, x.dearest(24, 1));
        DUE.is("from day 5", 24, x.dearest(24, 0));
        for (int n : NO_LOOKS) {
            DUE.is("dearest(" + n + ", 0)", -1, x.dearest(n, 0));
            DUE.is("dearest(" + n + ", 1)", -1, x.dearest(n, 1));
        }
    }

    private static void dearestTheFirstOfAlike() {
        DUE.about("DEAREST: of alike ones the first");
        DUE.is("each day alike", 0, new HerringShares().dearest(24, 0));
        DUE.is("99 from day 9 on", 9, Due.town("price=11*day;").dearest(24, 0));
        DUE.is("99 from day 9 on", 99, Due.town("price=11*day;").dearest(24, 1));
        DUE.is("lower each day", 0, Due.town("price=50-day;").dearest(24, 0));
        DUE.is("1 at least", 1, Due.town("price=0;").dearest(24, 1));
        HerringShares x = Due.town("house a 1 0 0 0;price=1;glut=9;odds 100;");
        DUE.is("more to sell each day", 5, x.sell(0, 5, 0));
        DUE.is("1 each day, whatever was asked ahead", 0, x.dearest(5, 0));
        DUE.is("1 each day, whatever was asked ahead", 1, x.dearest(5, 1));
    }

    private static void dearestNoSuchOnes() {
        DUE.about("24: NONE: no such ones");
        for (int what : NO_WHATS) {
            DUE.is("dearest(1, " + what + ")", -1, busy().dearest(1, what));
        }
    }

    private static void poorestFewest() {
        DUE.about("POOREST in n DAYS (n 0 .. 60): the HOUSE with fewest FISH; how many");
        HerringShares x = Due.town("house a 70 0 0 0;house b 75 0 0 0;house c 80 0 0 0;eats=which;");
        DUE.is("in 0 DAYS", 0, x.poorest(0, 0));
        DUE.is("in 0 DAYS", 70, x.poorest(0, 1));
        DUE.is("in 4 DAYS", 0, x.poorest(4, 0));
        DUE.is("in 6 DAYS", 2, x.poorest(6, 0));
        DUE.is("in 6 DAYS", 68, x.poorest(6, 1));
        DUE.is("in 60 DAYS", 2, x.poorest(60, 0));
        DUE.is("in 60 DAYS", 0, x.poorest(60, 1));
        DUE.is("one HOUSE", 0, Due.town("house a 7 0 0 0;").poorest(60, 0));
        DUE.is("one HOUSE", 7, Due.town("house a 7 0 0 0;").poorest(60, 1));
    }

    private static void poorestTheFirstOfAlike() {
        DUE.about("POOREST: of alike ones the first");
        DUE.is("b and c", 1, Due.town("house a 9 0 0 0;house b 5 0 0 0;house c 5 0 0 0;").poorest(0, 0));
        DUE.is("all have none", 0, Due.town("house a 9 0 0 0;house b 5 0 0 0;eats=1;").poorest(60, 0));
    }

    private static void poorestNoHouses() {
        DUE.about("25: -2: there are no HOUSES");
        for (int n : new int[] {0, 1, 60}) {
            DUE.is("poorest(" + n + ", 0)", -2, new HerringShares().poorest(n, 0));
            DUE.is("poorest(" + n + ", 1)", -2, new HerringShares().poorest(n, 1));
        }
    }

    private static void poorestNoSuchOnes() {
        DUE.about("25: NONE: no such ones");
        for (int n : NO_SPANS) {
            DUE.is("poorest(" + n + ", 0)", -1, busy().poorest(n, 0));
            DUE.is("poorest(" + n + ", 1)", -1, busy().poorest(n, 1));
            DUE.is("poorest(" + n + ", 0) without HOUSES", -1, new HerringShares().poorest(n, 0));
        }
        for (int what : NO_WHATS) {
            DUE.is("poorest(0, " + what + ")", -1, busy().poorest(0, what));
            DUE.is("poorest(0, " + what + ") without HOUSES", -1, new HerringShares().poorest(0, what));
        }
    }

    private static void shareRoundedDown() {
        DUE.about("SHARE: FISH of all times its HUNGER by the HUNGER of all, rounded down");
        HerringShares x = Due.town("house a 5 0 3 0;house b 6 0 4 0;house c 0 0 0 0;");
        // 33 by 7, 44 by 7
        DUE.is("4 of 4.7", 4, x.share(0));
        DUE.is("6 of 6.3", 6, x.share(1));
        DUE.is("not hungry", 0, x.share(2));
        x.eat(0, 4);
        DUE.is("21 by 7, just 3", 3, x.share(0));
        HerringShares most = Due.town(Sentence.houses("0 9 0", 99, 99, 99, 99, 99, 99, 99) + "odds 100;glut=99;");
        most.days(60);
        most.days(60);
        DUE.is("as many as can be", 9999, most.share(6));
        DUE.is("no FISH", 0, Due.town("house a 0 0 9 0;").share(0));
        DUE.is("the HUNGER of all is 1", 11, Due.town("house a 5 0 1 0;house b 6 0 0 0;").share(0));
    }

    private static void shareNobodyIsHungry() {
        DUE.about("SHARE: (0: nobody is hungry)");
        DUE.is("share(0)", 0, Due.town("house a 5 0 0 0;house b 6 0 0 0;").share(0));
        DUE.is("share(1)", 0, Due.town("house a 5 0 0 0;house b 6 0 0 0;").share(1));
    }

    private static void shareNoSuchHouse() {
        DUE.about("27: NONE: no such HOUSE");
        DUE.is("share(2)", -1, busy().share(2));
        for (int h : Sentence.NO_HOUSES) {
            DUE.is("share(" + h + ")", -1, busy().share(h));
            DUE.is("share(" + h + ") where nobody is hungry", -1, Due.town("house a 5 0 0 0;").share(h));
        }
        DUE.is("without HOUSES", -1, new HerringShares().share(0));
    }

    private static void priceInDays() {
        DUE.about("IN n DAYS (0 .. 60): PRICE");
        HerringShares x = Due.town("house a 70 0 0 0;price=all+day/30;eats=1;");
        DUE.is("in 0", 70, x.priceIn(0));
        DUE.is("in 1", 69, x.priceIn(1));
        DUE.is("in 60", 12, x.priceIn(60));
        x.days(2);
        DUE.is("in 60, of day 2", 10, x.priceIn(60));
        DUE.is("without HOUSES", 10, new HerringShares().priceIn(60));
    }

    private static void priceInNoSuchN() {
        DUE.about("28: NONE: no such n");
        for (int n : NO_SPANS) {
            DUE.is("priceIn(" + n + ")", -1, busy().priceIn(n));
        }
    }

    private static void thenInDays() {
        DUE.about("IN n DAYS (0 .. 60): FISH, how many it ate more, salted ones");
        HerringShares x = Due.town("house a 70 0 0 0;eats=1;");
        x.salts(0, 15);
        x.eat(0, 4);
        int[][] want = {{0, 66, 0, 15}, {1, 65, 1, 15}, {51, 15, 51, 15}, {52, 14, 52, 14}, {60, 6, 60, 6}};
        for (int[] row : want) {
            for (int what = 0; what < 3; what++) {
                DUE.is("then(0, " + row[0] + ", " + what + ")", row[what + 1], x.then(0, row[0], what));
            }
        }
    }

    private static void thenNoSuchOnes() {
        DUE.about("29: NONE: no such ones");
        HerringShares x = busy();
        for (int what = 0; what < 3; what++) {
            DUE.is("then(2, 1, " + what + ")", -1, x.then(2, 1, what));
            for (int h : Sentence.NO_HOUSES) {
                DUE.is("then(" + h + ", 1, " + what + ")", -1, x.then(h, 1, what));
            }
            for (int n : NO_SPANS) {
                DUE.is("then(0, " + n + ", " + what + ")", -1, x.then(0, n, what));
            }
        }
        for (int what : new int[] {-1, -2, 3, 4, LEAST, MOST}) {
            DUE.is("then(0, 1, " + what + ")", -1, x.then(0, 1, what));
        }
        DUE.is("without HOUSES", -1, new HerringShares().then(0, 1, 0));
    }

    private static void allInDays() {
        DUE.about("IN n DAYS (0 .. 60): FISH of all");
        HerringShares x = Due.town("house a 70 0 0 0;house b 99 0 0 0;eats=1;rots=which;");
        DUE.is("in 0", 169, x.allIn(0));
        DUE.is("in 1", 166, x.allIn(1));
        DUE.is("in 60", 10, x.allIn(60));
        DUE.is("without HOUSES", 0, new HerringShares().allIn(60));
    }

    private static void allInNoSuchN() {
        DUE.about("30: NONE: no such n");
        for (int n : NO_SPANS) {
            DUE.is("allIn(" + n + ")", -1, busy().allIn(n));
        }
    }

    private static void deals(String text, int many, int first) {
        DUE.is("deals(0) of " + text, many, Due.town(text).deals(0));
        DUE.is("deals(1) of " + text, first, Due.town(text).deals(1));
    }

    private static void dealsOfTheFirstOne() {
        DUE.about("DEALS: the first one has FISH and less COINS than the PRICE");
        deals("house a 1 9 1 0;house b 0 10 2 0;", 1, 1);
        deals("house a 0 9 1 0;house b 0 10 2 0;", 0, -2);
        deals("house a 1 10 1 0;house b 0 10 2 0;", 0, -2);
        deals("house a 1 0 0 0;house b 0 10 2 0;price=1;", 1, 1);
    }

    private static void dealsOfTheOtherOne() {
        DUE.about("DEALS: the other one COINS for the PRICE and more HUNGER than the first one");
        deals("house a 1 9 1 0;house b 0 10 2 0;", 1, 1);
        deals("house a 1 9 1 0;house b 0 9 2 0;", 0, -2);
        deals("house a 1 9 2 0;house b 0 10 2 0;", 0, -2);
        deals("house a 1 9 3 0;house b 0 10 2 0;", 0, -2);
    }

    private static void dealsLeastFirst() {
        DUE.about("31: the first pair (10 * the first one + the other one, least first)");
        deals("house a 0 10 2 0;house b 1 9 1 0;", 1, 10);
        deals("house a 1 9 1 0;house b 1 9 0 0;house c 0 10 2 0;house d 0 10 2 0;", 4, 2);
        deals(Sentence.houses("0 0 0", 1, 1, 1, 1, 1, 1) + "house g 0 99 1 0;", 6, 6);
        deals("house z 0 99 1 0;" + Sentence.houses("0 0 0", 0, 0, 0, 0, 0, 1), 1, 60);
    }

    private static void dealsNone() {
        DUE.about("31: -2: none");
        DUE.is("deals(0) without HOUSES", 0, new HerringShares().deals(0));
        DUE.is("deals(1) without HOUSES", -2, new HerringShares().deals(1));
        deals("house a 9 9 9 9;", 0, -2);
    }

    private static void dealsNoneForOthers() {
        DUE.about("31: NONE for others");
        for (int what : NO_WHATS) {
            DUE.is("deals(" + what + ")", -1, busy().deals(what));
            DUE.is("deals(" + what + ") without HOUSES", -1, new HerringShares().deals(what));
        }
    }

    private static void ruinBySeeds() {
        DUE.about("RUIN by s SEEDS (1 .. 20) from the text's SEED on");
        for (int seed : new int[] {0, 777, 9999}) {
            HerringShares x = Due.town("house a 0 0 0 0;odds 50;seed " + seed + ";");
            int ruined = 0;
            for (int s = 1; s <= 20; s++) {
                ruined += Sentence.lot(100, seed + s - 1, 0) < 50 ? 0 : 1;
                DUE.is("SEED " + seed + ", ruin(0, 1, " + s + ")", ruined, x.ruin(0, 1, s));
            }
            DUE.is("some are ruined, some not", true, ruined > 0 && ruined < 20);
        }
        for (int s : new int[] {0, -1, 21, 22, LEAST, MOST}) {
            DUE.is("ruin(0, 1, " + s + ")", -1, busy().ruin(0, 1, s));
        }
    }

    private static void ruinHasNoFish() {
        DUE.about("RUIN: in how many of them a HOUSE has no FISH behind n DAYS (0 .. 60)");
        HerringShares x = Due.town("house a 60 0 0 0;house b 61 0 0 0;house c 0 0 0 0;eats=1;");
        DUE.is("none left behind 60", 20, x.ruin(0, 60, 20));
        DUE.is("one left behind 59", 0, x.ruin(0, 59, 20));
        DUE.is("one left behind 60", 0, x.ruin(1, 60, 20));
        DUE.is("none now", 20, x.ruin(2, 0, 20));
        DUE.is("60 now", 0, x.ruin(0, 0, 20));
        // no FISH on a day between is no ruin at the end
        x = Due.town("house a 1 0 0 0;odds 100;glut=if day<1 then 0 else 3;eats=1-day;");
        DUE.is("behind 1", 3, x.ruin(0, 1, 3));
        DUE.is("behind 2", 0, x.ruin(0, 2, 3));
    }

    private static void ruinNoSuchOnes() {
        DUE.about("32: NONE: no such ones");
        HerringShares x = busy();
        DUE.is("ruin(2, 1, 1)", -1, x.ruin(2, 1, 1));
        for (int h : Sentence.NO_HOUSES) {
            DUE.is("ruin(" + h + ", 1, 1)", -1, x.ruin(h, 1, 1));
        }
        for (int n : NO_SPANS) {
            DUE.is("ruin(0, " + n + ", 1)", -1, x.ruin(0, n, 1));
        }
        DUE.is("without HOUSES", -1, new HerringShares().ruin(0, 1, 1));
    }
}
