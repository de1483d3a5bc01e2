/** 'Terms', II: each sentence that bounds LAWS, the LOT, a DAY or what is done by hand has a method of its own. */
public final class SentencesOfLawsTest {
    private static final Due DUE = new Due();
    private static final String[] VARS = {"fish", "all", "day", "hunger", "coins", "fear", "salted", "ate", "which"};
    /** 2,147,483,647 and -2,147,483,648, as E's of their own. */
    private static final String HIGHEST = "(2147*1000*1000+483*1000+647)";
    private static final String LOWEST = "(0-2147*1000*1000-483*1000-648)";

    public static void main(String[] args) {
        theFirstIfThatHolds();
        oneLessThanTheOther();
        elseTheLastOne();
        intsThatWrap();
        dividedTowards0();
        dividedBy0();
        onlyWhatIsLookedAt();
        varsNotTold();
        allAndDayForAll();
        varsOfAHouse();
        priceHeld();
        eatsHeld();
        glutHeld();
        votesHeld();
        rotsHeld();
        lot();
        lotBelowOdds();
        eachEatsThenRotsThenGets();
        eatsAndGlutByHowTheDayBegan();
        rotsAsItIsThen();
        freshOnesAreEatenFirst();
        nineThousand();
        theNextDay();
        freshOnesGoFirst();
        saltedOnesStaySo();
        asMuchSaltGoes();
        whoHasAProxyMayNotGive();
        whoGaveMayNotHaveOne();
        DUE.end();
    }

    /** The VOTES of a HOUSE tell most of a LAW: they are held to 0 .. 999. */
    private static void votes(int want, String law) {
        DUE.is("votes = " + law, want, Due.town("house a 7 30 4 3;house b 5 0 0 0;votes=" + law + ";").house(0, 7));
    }

    private static void theFirstIfThatHolds() {
        DUE.about("LAWS: the E of the first if that holds");
        votes(1, "if 1<2 then 1 else if 1<2 then 2 else 3");
        votes(2, "if 2<1 then 1 else if 1<2 then 2 else 3");
        votes(4, "if 2<1 then 1 else if 2<1 then 2 else if 2<1 then 3 else if 1<2 then 4 else 5");
    }

    private static void oneLessThanTheOther() {
        DUE.about("(one less than the other)");
        votes(1, "if 6<7 then 1 else 2");
        votes(2, "if 7<7 then 1 else 2");
        votes(2, "if 8<7 then 1 else 2");
        votes(1, "if 0-1<0 then 1 else 2");
        votes(1, "if " + LOWEST + "<" + HIGHEST + " then 1 else 2");
        votes(2, "if " + HIGHEST + "<" + LOWEST + " then 1 else 2");
    }

    private static void elseTheLastOne() {
        DUE.about("else the last one");
        votes(5, "if 2<1 then 1 else if 2<1 then 2 else if 2<1 then 3 else if 2<1 then 4 else 5");
        votes(5, "5");
    }

    private static void intsThatWrap() {
        DUE.about("ints of 32 bits that wrap");
        votes(1, "if " + HIGHEST + "+1<0 then 1 else 2");
        votes(1, "if 0<" + LOWEST + "-1 then 1 else 2");
        votes(2, "if " + HIGHEST + "<0 then 1 else 2");
        votes(2, "if 0<" + LOWEST + " then 1 else 2");
        votes(0, "4096*4096*256");
        votes(7, "4096*4096*256+7");
        votes(5, HIGHEST + "+" + HIGHEST + "+7");
        votes(1, HIGHEST + "*" + HIGHEST);
        votes(1, "if " + LOWEST + "/(0-1)<0 then 1 else 2");
    }

    private static void dividedTowards0() {
        DUE.about("/ rounded towards 0");
        votes(3, "7/2");
        votes(97, "100+(0-7)/2");
        votes(97, "100+7/(0-2)");
        votes(103, "100+(0-7)/(0-2)");
        votes(100, "100+(0-1)/2");
        votes(100, "100+1/2");
        votes(7, "7/1");
        votes(93, "100+7/(0-1)");
        votes(1, "7/7");
        votes(100, "100+7/8");
        votes(0, "0/7");
    }

    private static void dividedBy0() {
        DUE.about("a LAW in which something that is looked at is divided by 0 is 0");
        votes(0, "5/0");
        votes(0, "0/0");
        votes(0, "9+5/(fish-7)");
        votes(0, "9+0*(5/0)");
        votes(0, "if 1/0<5 then 8 else 9");
        votes(0, "if 5<1/0 then 8 else 9");
        votes(0, "if 2<1 then 8 else if 1/0<1 then 7 else 9");
        votes(0, "if 1<2 then 3/0 else 9");
        votes(0, "if 2<1 then 9 else 3/0");
        HerringShares x = Due.town("house a 7 0 0 0;price=9+5/0;eats=9+5/0;glut=9+5/0;rots=9+5/0;");
        int[] want = {1, 0, 0, 0};
        for (int what = 0; what < 4; what++) {
            DUE.is("0, then held, tells(0, " + what + ")", want[what], x.tells(0, what));
        }
    }

    private static void onlyWhatIsLookedAt() {
        DUE.about("something that is looked at");
        votes(9, "if 1<2 then 9 else 3/0");
        votes(9, "if 2<1 then 3/0 else 9");
        votes(9, "if 1<2 then 9 else if 1/0<1 then 7 else 8");
        votes(9, "if 2<1 then 3/0 else if 1<2 then 9 else 4/0");
    }

    private static HerringShares seen(String law, String var) {
        HerringShares x = Due.town("house a 40 9 1 2;house b 17 8 6 5;" + law + "=" + var + ";salt 9;");
        x.days(3);
        x.eat(0, 1);
        x.eat(1, 2);
        x.salts(1, 4);
        return x;
    }

    private static void varsNotTold() {
        DUE.about("a VAR not told for a LAW is 0 in it");
        int[] price = {1, 54, 3, 1, 1, 1, 1, 3, 1};
        int[] glut = {15, 54, 3, 0, 0, 0, 0, 0, 1};
        for (int i = 0; i < VARS.length; i++) {
            DUE.is("price = " + VARS[i], price[i], seen("price", VARS[i]).tells(1, 0));
            DUE.is("glut = " + VARS[i], glut[i], seen("glut", VARS[i]).tells(1, 3));
        }
        DUE.is("price, whatever was told ahead", 5, Due.town("house a 9 9 9 9;votes=fish;price=5+fish+which+hunger;")
                .tells(0, 0));
        HerringShares x = Due.town("house a 9 9 9 9;glut=5+hunger+ate;price=5+hunger;eats=1;");
        x.house(0, 7);
        x.tells(0, 1);
        DUE.is("GLUT behind a look at EATS", 5, x.tells(0, 3));
        x.tells(0, 1);
        DUE.is("PRICE behind a look at EATS", 5, x.tells(0, 0));
    }

    private static void allAndDayForAll() {
        DUE.about("all (the FISH of all HOUSES), day for all");
        for (String law : new String[] {"price", "eats", "glut", "votes", "rots"}) {
            HerringShares x = Due.town("house a 40 9 1 2;house b 17 8 6 5;" + law + "=all;");
            int what = law.equals("eats") ? 1 : law.equals("rots") ? 2 : law.equals("glut") ? 3 : 0;
            boolean held = what == 1 || what == 2;
            DUE.is(law + " = all", held ? 17 : 57, law.equals("votes") ? x.house(1, 7) : x.tells(1, what));
            x = Due.town("house a 40 9 1 2;house b 17 8 6 5;" + law + "=day+1;");
            if (!held) {
                x.days(3);
            }
            DUE.is(law + " = day + 1", held ? 1 : 4, law.equals("votes") ? x.house(1, 7) : x.tells(1, what));
        }
        HerringShares x = Due.town("house a 40 9 1 2;house b 17 8 6 5;house c 3 1 1 1;motion m b;votes=all*which;");
        DUE.is("VOTES that a has", 0, x.house(0, 8));
        DUE.is("VOTES that b has", 60, x.house(1, 8));
        DUE.is("VOTES that c has", 120, x.house(2, 8));
        DUE.is("VOTES of all", 180, x.count(12));
        DUE.is("VOTES for it", 60, x.motion(0, 1));
        DUE.is("b lacks half", 1, x.allies(1));
        DUE.is("c does not", 0, x.allies(2));
    }

    private static void varsOfAHouse() {
        DUE.about("Of a HOUSE: fish, hunger, coins, fear, salted, which: its number; ate: how many it ate in all so far");
        int[] want = {15, 54, 3, 6, 8, 5, 4, 2, 1};
        for (int i = 0; i < VARS.length; i++) {
            DUE.is("votes = " + VARS[i], want[i], seen("votes", VARS[i]).house(1, 7));
            boolean day = VARS[i].equals("day");
            DUE.is("eats = " + VARS[i], day ? 0 : Math.min(15, want[i]), atOnce("eats", VARS[i]).tells(1, 1));
            DUE.is("rots = " + VARS[i], day ? 0 : Math.min(11, want[i]), atOnce("rots", VARS[i]).tells(1, 2));
        }
    }

    private static HerringShares atOnce(String law, String var) {
        HerringShares x = Due.town("house a 40 9 1 2;house b 17 8 6 5;" + law + "=" + var + ";salt 9;");
        x.eat(0, 1);
        x.eat(1, 2);
        x.salts(1, 4);
        return x;
    }

    private static void priceHeld() {
        DUE.about("PRICE of a fish .. held to 1 .. 99");
        String[] laws = {"0-1", "0", "1", "2", "98", "99", "100", "9999", HIGHEST, LOWEST};
        int[] want = {1, 1, 1, 2, 98, 99, 99, 99, 99, 1};
        for (int i = 0; i < laws.length; i++) {
            DUE.is("price = " + laws[i], want[i], Due.town("price=" + laws[i] + ";").tells(0, 0));
        }
    }

    private static void eatsHeld() {
        DUE.about("EATS .. held to 0 .. its FISH");
        String[] laws = {"0-1", "0", "1", "6", "7", "8", "9999", HIGHEST, LOWEST};
        int[] want = {0, 0, 1, 6, 7, 7, 7, 7, 0};
        for (int i = 0; i < laws.length; i++) {
            HerringShares x = Due.town("house a 7 0 0 0;house b 0 0 0 0;eats=" + laws[i] + ";");
            x.salts(0, 2);
            DUE.is("eats = " + laws[i], want[i], x.tells(0, 1));
            DUE.is("eats = " + laws[i] + ", of no FISH", 0, x.tells(1, 1));
        }
    }

    private static void glutHeld() {
        DUE.about("GLUT .. held to 0 .. 99");
        String[] laws = {"0-1", "0", "1", "98", "99", "100", "9999", HIGHEST, LOWEST};
        int[] want = {0, 0, 1, 98, 99, 99, 99, 99, 0};
        for (int i = 0; i < laws.length; i++) {
            HerringShares x = Due.town("house a 7 0 0 0;odds 100;glut=" + laws[i] + ";");
            DUE.is("glut = " + laws[i], want[i], x.tells(0, 3));
            DUE.is("FISH then", 7 + want[i], x.then(0, 1, 0));
        }
    }

    private static void votesHeld() {
        DUE.about("VOTES, held to 0 .. 999");
        votes(0, "0-1");
        votes(0, "0");
        votes(1, "1");
        votes(998, "998");
        votes(999, "999");
        votes(999, "1000");
        votes(999, HIGHEST);
        votes(0, LOWEST);
    }

    private static void rotsHeld() {
        DUE.about("ROTS: how many of its FISH that are not salted rot in a day, held to 0 .. as many");
        String[] laws = {"0-1", "0", "1", "4", "5", "6", "9999", HIGHEST, LOWEST};
        int[] want = {0, 0, 1, 4, 5, 5, 5, 5, 0};
        for (int i = 0; i < laws.length; i++) {
            HerringShares x = Due.town("house a 7 0 0 0;house b 0 0 0 0;house c 3 0 0 0;rots=" + laws[i] + ";");
            x.salts(0, 2);
            x.salts(2, 3);
            DUE.is("rots = " + laws[i], want[i], x.tells(0, 2));
            DUE.is("rots = " + laws[i] + ", of no FISH", 0, x.tells(1, 2));
            DUE.is("rots = " + laws[i] + ", of salted ones alone", 0, x.tells(2, 2));
            x.days(1);
            DUE.is("FISH", 7 - want[i], x.house(0, 0));
            DUE.is("salted ones", 2, x.house(0, 4));
            DUE.is("FISH, all salted", 3, x.house(2, 0));
        }
    }

    private static void lot() {
        DUE.about("LOT n of a SEED and a which .. (32 bits that wrap)");
        for (int seed : new int[] {0, 1, 2, 115, 999, 5000, 9998, 9999}) {
            for (int odds : new int[] {1, 13, 50, 87, 99}) {
                HerringShares x = Due.town("seed " + seed + ";odds " + odds + ";");
                for (int day = 0; day < 12; day++) {
                    boolean glut = Sentence.lot(100, seed, 4 * day) < odds;
                    DUE.is("a glut, SEED " + seed + " ODDS " + odds + " day " + day, glut, x.count(13) == 1);
                    x.days(1);
                }
            }
        }
        // the first LOTS, worked out apart from this program
        int[] first = {22, 99, 81, 18, 75, 8, 26};
        for (int day = 0; day < first.length; day++) {
            DUE.is("LOT of SEED 0, day " + day, first[day], Sentence.lot(100, 0, 4 * day));
        }
    }

    private static void lotBelowOdds() {
        DUE.about("in a glut (LOT 100 of the SEED and 4 * the day is less than ODDS)");
        for (int lot : new int[] {0, 1, 49, 98, 99}) {
            String seed = "house a 0 0 0 0;seed " + Sentence.seedOfLot(lot) + ";odds ";
            HerringShares not = Due.town(seed + lot + ";");
            DUE.is("LOT " + lot + ", as much as ODDS", 0, not.count(13));
            not.days(1);
            DUE.is("FISH", 0, not.house(0, 0));
            HerringShares glut = Due.town(seed + (lot + 1) + ";");
            DUE.is("LOT " + lot + ", less than ODDS", 1, glut.count(13));
            glut.days(1);
            DUE.is("FISH", 5, glut.house(0, 0));
        }
    }

    private static void eachEatsThenRotsThenGets() {
        DUE.about("A DAY: each HOUSE EATS; then as many of what is left ROTS; then, in a glut, each gets what GLUT tells");
        HerringShares x = Due.town("house a 10 0 0 0;house b 5 0 0 0;house c 0 0 0 0;eats=4;rots=99;glut=3+which;odds 100;");
        x.salts(0, 2);
        x.days(1);
        int[] fish = {2 + 3, 4, 5};
        int[] ate = {4, 4, 0};
        for (int h = 0; h < 3; h++) {
            DUE.is("FISH of " + h, fish[h], x.house(h, 0));
            DUE.is("ate " + h, ate[h], x.house(h, 5));
        }
        DUE.is("what came is not salted", 2, x.count(14));
    }

    private static void eatsAndGlutByHowTheDayBegan() {
        DUE.about("EATS, GLUT by how all was as the day began");
        HerringShares x = Due.town("house a 20 0 0 0;house b 10 0 0 0;eats=all/10+ate;");
        x.days(1);
        DUE.is("FISH of a, by 30 in all", 17, x.house(0, 0));
        DUE.is("FISH of b, by 30 in all, too", 7, x.house(1, 0));
        x = Due.town("house a 20 0 0 0;house b 10 0 0 0;eats=5;rots=5;glut=fish+all+day;odds 100;");
        x.days(1);
        DUE.is("FISH of a, by 20 of 30", 10 + 50, x.house(0, 0));
        DUE.is("FISH of b, by 10 of 30", 0 + 40, x.house(1, 0));
    }

    private static void rotsAsItIsThen() {
        DUE.about("ROTS as it is then, all having eaten");
        HerringShares x = Due.town("house a 20 0 0 0;house b 10 0 0 0;eats=5;rots=all/4;");
        x.days(1);
        DUE.is("FISH of a, by 20 left in all", 10, x.house(0, 0));
        DUE.is("FISH of b, by 20 left in all, too", 0, x.house(1, 0));
        x = Due.town("house a 20 0 0 0;eats=5;rots=fish-13+ate-5;");
        x.days(1);
        DUE.is("by 15 FISH left, 5 eaten", 13, x.house(0, 0));
        x = Due.town("house a 20 0 0 0;eats=17;rots=salted;salt 9;");
        x.salts(0, 5);
        x.days(1);
        DUE.is("3 are left, and salted", 3, x.house(0, 0));
        x = Due.town("house a 20 0 0 0;eats=day;rots=1-day;");
        x.days(1);
        DUE.is("day 0 still", 19, x.house(0, 0));
        x.days(1);
        DUE.is("day 1", 18, x.house(0, 0));
    }

    private static void freshOnesAreEatenFirst() {
        DUE.about("what is eaten is first what is not salted");
        for (int eats = 0; eats <= 10; eats++) {
            HerringShares x = Due.town("house a 10 0 0 0;eats=" + eats + ";");
            x.salts(0, 4);
            x.days(1);
            DUE.is("salted ones, " + eats + " eaten", Math.min(4, 10 - eats), x.house(0, 4));
            HerringShares byHand = Due.town("house a 10 0 0 0;");
            byHand.salts(0, 4);
            if (eats > 0) {
                byHand.eat(0, eats);
                DUE.is("salted ones, " + eats + " eaten by hand", Math.min(4, 10 - eats), byHand.house(0, 4));
            }
        }
    }

    private static void nineThousand() {
        DUE.about("(9,999 FISH at most each)");
        HerringShares x = Due.town("house a 98 0 0 0;house b 99 0 0 0;house c 97 0 0 0;odds 100;glut=99;");
        x.days(60);
        x.days(40);
        int[] before = {9998, 9999, 9997};
        for (int h = 0; h < 3; h++) {
            DUE.is("FISH of " + h, before[h], x.house(h, 0));
        }
        x.days(1);
        DUE.is("FISH of all", 3 * 9999, x.count(4));
        x.days(60);
        DUE.is("FISH of all", 3 * 9999, x.count(4));
        // what is eaten and what rots goes ahead of the glut
        x = Due.town("house a 99 0 0 0;odds 100;glut=99;eats=if fish<9999 then 0 else 10;rots=if fish<9989 then 0 else 20;");
        x.days(60);
        x.days(40);
        DUE.is("FISH", 9999, x.house(0, 0));
        x.days(1);
        DUE.is("30 went, 30 of 99 come", 9999, x.house(0, 0));
        DUE.is("eaten", 10, x.house(0, 5));
    }

    private static void theNextDay() {
        DUE.about("It is the next day");
        HerringShares x = Due.town("house a 1 1 1 1;price=day+1;");
        DUE.is("day 0", 1, x.tells(0, 0));
        x.days(1);
        DUE.is("day 1", 2, x.tells(0, 0));
        x.days(60);
        DUE.is("day 61", 62, x.tells(0, 0));
    }

    private static void freshOnesGoFirst() {
        DUE.about("BUYS: what goes is first what is not salted");
        for (int n = 1; n <= 10; n++) {
            HerringShares x = Due.town("house a 10 0 0 0;house b 0 99 0 0;price=1;");
            x.salts(0, 4);
            DUE.is("buys " + n, n, x.buy(1, 0, n));
            DUE.is("salted ones left", Math.min(4, 10 - n), x.house(0, 4));
        }
    }

    private static void saltedOnesStaySo() {
        DUE.about("BUYS: what is salted stays so");
        for (int n = 1; n <= 10; n++) {
            HerringShares x = Due.town("house a 10 0 0 0;house b 3 99 0 0;price=1;");
            x.salts(0, 4);
            x.salts(1, 1);
            x.buy(1, 0, n);
            DUE.is("salted ones of the buyer, " + n + " bought", 1 + Math.max(0, n - 6), x.house(1, 4));
            DUE.is("salted ones of all", 5, x.count(14));
            DUE.is("FISH of the buyer", 3 + n, x.house(1, 0));
        }
    }

    private static void asMuchSaltGoes() {
        DUE.about("SALTS n of its FISH (as much SALT goes)");
        HerringShares x = Due.town("house a 10 0 0 0;house b 10 0 0 0;salt 12;");
        DUE.is("SALT", 5, x.salts(0, 7));
        DUE.is("SALT", 0, x.salts(1, 5));
        DUE.is("eating brings none back", 0, x.eat(0, 10));
        DUE.is("SALT", 0, x.count(7));
    }

    private static void whoHasAProxyMayNotGive() {
        DUE.about("who has a PROXY may not give his");
        HerringShares x = Due.town(Sentence.houses("1 1 1", 1, 2, 4, 8));
        x.proxy(0, 1);
        String was = Sentence.all(x);
        DUE.is("b has one of a", false, x.proxy(1, 2));
        DUE.is("not to a either", false, x.proxy(1, 0));
        DUE.is("all is as it was", true, Sentence.same(was, x));
        DUE.is("a takes it back", true, x.proxy(0, -1));
        DUE.is("now b may", true, x.proxy(1, 2));
        for (int givers = 1; givers < 7; givers++) {
            HerringShares many = Due.town(Sentence.houses("1 1 1", 1, 1, 1, 1, 1, 1, 1));
            for (int giver = 1; giver <= givers; giver++) {
                DUE.is(giver + " to a", true, many.proxy(giver, 0));
            }
            for (int to = 1; to < 7; to++) {
                DUE.is("a has " + givers + ", to " + to, false, many.proxy(0, to));
            }
        }
    }

    private static void whoGaveMayNotHaveOne() {
        DUE.about("who gave his may not have one");
        HerringShares x = Due.town(Sentence.houses("1 1 1", 1, 2, 4, 8));
        x.proxy(0, 1);
        String was = Sentence.all(x);
        DUE.is("c to a", false, x.proxy(2, 0));
        DUE.is("d to a", false, x.proxy(3, 0));
        DUE.is("all is as it was", true, Sentence.same(was, x));
        DUE.is("a takes it back", true, x.proxy(0, -1));
        DUE.is("now he may", true, x.proxy(2, 0));
    }
}
