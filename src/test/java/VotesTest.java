/** Promises 17 to 21: power, strongest, allies, takeover, motion. */
public final class VotesTest {
    private static final Due DUE = new Due();

    public static void main(String[] args) {
        powers();
        halves();
        powersByProxy();
        nobodyHasVotes();
        allies();
        takeovers();
        takeoversAtTheEdge();
        motions();
        wrongInputs();
        DUE.end();
    }

    /** Houses a, b, c .. with so many FISH, which are their VOTES. */
    private static String houses(int coins, int... fish) {
        StringBuilder text = new StringBuilder();
        for (int i = 0; i < fish.length; i++) {
            text.append("house ").append((char) ('a' + i)).append(' ').append(fish[i]).append(' ').append(coins);
            text.append(" 1 1;");
        }
        return text.toString();
    }

    private static void power(HerringShares x, int house, int upper, int lower) {
        DUE.is("power(" + house + ", false)", upper, x.power(house, false));
        DUE.is("power(" + house + ", true)", lower, x.power(house, true));
    }

    private static void powers() {
        DUE.about("promises 17, 18");
        // 50 of 100 in all, 49, 1: the first turns three sets, the others one each
        HerringShares x = Due.town(houses(0, 50, 49, 1));
        power(x, 0, 3, 5);
        power(x, 1, 1, 5);
        power(x, 2, 1, 5);
        DUE.is("strongest", 0, x.strongest(0));
        DUE.is("turns", 3, x.strongest(1));
        x = Due.town(houses(0, 1, 49, 50));
        DUE.is("strongest", 2, x.strongest(0));
        x = Due.town(houses(0, 5, 5, 5));
        power(x, 0, 1, 3);
        DUE.is("the first of alike ones", 0, x.strongest(0));
        DUE.is("turns", 2, x.strongest(1));
        x = Due.town(houses(0, 1, 1, 1, 1, 1, 1, 1));
        power(x, 6, 1, 7);
        DUE.is("turns", 20, x.strongest(1));
    }

    private static void halves() {
        DUE.about("promise 17, just half");
        // of 4: {b} is just half, a turns it; {a} likewise by b; alone each has only half
        HerringShares x = Due.town(houses(0, 2, 2));
        power(x, 0, 1, 2);
        DUE.is("turns", 1, x.strongest(1));
        x = Due.town(houses(0, 9));
        power(x, 0, 1, 1);
        x = Due.town(houses(0, 9, 4, 4));
        power(x, 0, 1, 1);
        power(x, 1, 0, 1);
        DUE.is("turns", 4, x.strongest(1));
    }

    private static void powersByProxy() {
        DUE.about("promise 17, PROXIES");
        HerringShares x = Due.town(houses(0, 50, 49, 1));
        x.proxy(2, 1);
        power(x, 0, 1, 2);
        power(x, 1, 1, 2);
        power(x, 2, 0, 1);
        DUE.is("turns", 2, x.strongest(1));
        x.proxy(2, 0);
        power(x, 0, 1, 1);
        power(x, 1, 0, 1);
    }

    private static void nobodyHasVotes() {
        DUE.about("no VOTES");
        HerringShares x = Due.town(houses(9, 0, 0, 0) + "motion m a b c; motion n;");
        power(x, 1, 0, 1);
        DUE.is("strongest", 0, x.strongest(0));
        DUE.is("turns", 0, x.strongest(1));
        DUE.is("allies", -2, x.allies(0));
        DUE.is("not carried", 0, x.motion(0, 0));
        DUE.is("not by all", -2, x.motion(0, 2));
        DUE.is("not by all", -2, x.motion(1, 2));
        HerringShares empty = new HerringShares();
        DUE.is("strongest", -2, empty.strongest(0));
        DUE.is("strongest", -2, empty.strongest(1));
        DUE.is("strongest(2)", -1, empty.strongest(2));
    }

    private static void allies() {
        DUE.about("promise 19");
        HerringShares x = Due.town(houses(0, 11, 5, 4));
        DUE.is("none needed", 0, x.allies(0));
        DUE.is("one", 1, x.allies(1));
        x = Due.town(houses(0, 10, 6, 4));
        DUE.is("just half is not enough", 1, x.allies(0));
        x = Due.town(houses(0, 1, 5, 9, 5, 10));
        DUE.is("the most first", 2, x.allies(0));
        x.proxy(0, 3);
        DUE.is("who gave his", 2, x.allies(0));
        x.proxy(1, 3);
        DUE.is("who has two more", 1, x.allies(3));
        DUE.is("who gave his", 2, x.allies(1));
    }

    private static void takeovers() {
        DUE.about("promise 20");
        HerringShares x = Due.town(houses(999, 20, 10, 6, 4) + "price = 7;");
        int[] pays = {7, 77, 105, 119};
        int[] from = {1, 1, 1, 1};
        for (int h = 0; h < 4; h++) {
            DUE.is("takeover(" + h + ", 0)", pays[h], x.takeover(h, 0));
            DUE.is("takeover(" + h + ", 1)", from[h], x.takeover(h, 1));
        }
        x = Due.town(houses(999, 1, 10, 9, 10, 10) + "price = 2;");
        // 21 of 40 are more than half: 20 more, from two of ten
        DUE.is("how much", 40, x.takeover(0, 0));
        DUE.is("from how many", 2, x.takeover(0, 1));
        x.salts(1, 5);
        DUE.is("salted or not", 2, x.takeover(0, 1));
        x = Due.town(houses(999, 0, 3, 3, 3) + "price = 2;");
        DUE.is("five of nine", 10, x.takeover(0, 0));
        DUE.is("from two", 2, x.takeover(0, 1));
    }

    private static void takeoversAtTheEdge() {
        DUE.about("promise 20, edges");
        HerringShares x = Due.town(houses(29, 10, 6, 14) + "price = 5;");
        DUE.is("six needed, 30 COINS", -2, x.takeover(0, 0));
        DUE.is("six needed, 30 COINS", -2, x.takeover(0, 1));
        x = Due.town(houses(30, 10, 6, 14) + "price = 5;");
        DUE.is("they just do", 30, x.takeover(0, 0));
        x = Due.town(houses(0, 16, 6, 9) + "price = 5;");
        DUE.is("nothing", 0, x.takeover(0, 0));
        DUE.is("from nobody", 0, x.takeover(0, 1));
        x = Due.town(houses(999, 0, 0));
        DUE.is("there are no FISH", -2, x.takeover(0, 0));
        DUE.is("there are no FISH", -2, x.takeover(0, 1));
    }

    private static void motions() {
        DUE.about("promise 21");
        HerringShares x = Due.town(houses(0, 20, 10, 6, 4) + "motion tax a c; motion war d;"
                + "motion half a; motion each a b c d; motion none;");
        int[][] want = {{1, 26, 0}, {0, 4, 1}, {0, 20, 1}, {1, 40, 0}, {0, 0, 2}};
        for (int m = 0; m < 5; m++) {
            for (int what = 0; what < 3; what++) {
                DUE.is("motion(" + m + ", " + what + ")", want[m][what], x.motion(m, what));
            }
        }
        x.proxy(0, 3);
        int[][] later = {{0, 6, 1}, {1, 24, 0}, {0, 0, 1}, {1, 40, 0}, {0, 0, 1}};
        for (int m = 0; m < 5; m++) {
            for (int what = 0; what < 3; what++) {
                DUE.is("motion(" + m + ", " + what + ") later", later[m][what], x.motion(m, what));
            }
        }
        x = Due.town("house a 1 1 1 1; motion m a; house b 9 1 1 1; house c 9 1 1 1;");
        DUE.is("told ahead of others, who are against it", 1, x.motion(0, 1));
        DUE.is("one of them carries it", 1, x.motion(0, 2));
    }

    private static void wrongInputs() {
        DUE.about("no such ones");
        HerringShares x = Due.town(houses(9, 5, 6) + "motion m a;");
        for (int h : new int[] {-1, 2, 7, Integer.MIN_VALUE, Integer.MAX_VALUE}) {
            DUE.is("power(" + h + ")", -1, x.power(h, true));
            DUE.is("power(" + h + ")", -1, x.power(h, false));
            DUE.is("allies(" + h + ")", -1, x.allies(h));
            DUE.is("takeover(" + h + ", 0)", -1, x.takeover(h, 0));
            DUE.is("takeover(0, " + h + ")", -1, x.takeover(0, h));
            DUE.is("strongest(" + h + ")", -1, x.strongest(h));
            DUE.is("motion(" + h + ", 0)", -1, x.motion(h, 0));
        }
        DUE.is("motion(1, 0)", -1, x.motion(1, 0));
        DUE.is("motion(0, 3)", -1, x.motion(0, 3));
        DUE.is("motion(0, -1)", -1, x.motion(0, -1));
    }
}
