/**
 * For the tests that have one method for each sentence of the document: all that can be seen of an object, so that
 * "nothing happens" can be held against it, and towns told shortly.
 */
final class Sentence {
    static final int LEAST = Integer.MIN_VALUE;
    static final int MOST = Integer.MAX_VALUE;
    /** No house, whatever the town. */
    static final int[] NO_HOUSES = {-1, -2, 7, 8, 99, LEAST, MOST};

    private Sentence() {
    }

    /** All that the object tells of itself; some fifty calls in a town of two. */
    static String all(HerringShares x) {
        StringBuilder seen = new StringBuilder();
        for (int what = 0; what < 15; what++) {
            seen.append(x.count(what)).append(' ');
        }
        for (int house = 0; house < x.count(0); house++) {
            seen.append("/ ");
            for (int what = 0; what < 10; what++) {
                seen.append(x.house(house, what)).append(' ');
            }
            for (int what = 0; what < 4; what++) {
                seen.append(x.tells(house, what)).append(' ');
            }
        }
        for (int motion = 0; motion < x.count(2); motion++) {
            seen.append("/ ").append(x.motion(motion, 1)).append(' ');
        }
        return seen.append("/ ").append(x.began(x.count(10), 1)).toString();
    }

    /** What would be, asked of each house; some sixty calls in a town of two. */
    static String wouldBe(HerringShares x) {
        StringBuilder seen = new StringBuilder();
        for (int what = 0; what < 2; what++) {
            seen.append(x.spark(what)).append(' ').append(x.strongest(what)).append(' ').append(x.deals(what)).append(' ');
            seen.append(x.dearest(9, what)).append(' ').append(x.poorest(9, what)).append(' ');
        }
        seen.append(x.priceIn(9)).append(' ').append(x.allIn(9)).append(' ').append(x.ask(0)).append(' ');
        int houses = x.count(0);
        for (int house = 0; house < houses; house++) {
            seen.append("/ ").append(x.panic(house)).append(' ').append(x.calm(house, (house + 1) % houses, -1)).append(' ');
            seen.append(x.power(house, true)).append(' ').append(x.power(house, false)).append(' ').append(x.allies(house));
            seen.append(' ').append(x.takeover(house, 0)).append(' ').append(x.takeover(house, 1)).append(' ');
            seen.append(x.sell(house, 9, 0)).append(' ').append(x.sell(house, 9, 1)).append(' ').append(x.salting(house, 9));
            seen.append(' ').append(x.quiet(house)).append(' ').append(x.share(house)).append(' ');
            seen.append(x.then(house, 9, 0)).append(' ').append(x.ruin(house, 9, 5)).append(' ');
        }
        return seen.toString();
    }

    /** Whether all is as it was; says what differs. */
    static boolean same(String was, HerringShares x) {
        String is = all(x);
        if (!is.equals(was)) {
            System.out.println("was " + was + "\nis  " + is);
        }
        return is.equals(was);
    }

    /** Houses a, b, c .. of so many FISH, with the rest told behind: COINS, HUNGER, FEAR. */
    static String houses(String rest, int... fish) {
        StringBuilder text = new StringBuilder();
        for (int i = 0; i < fish.length; i++) {
            text.append("house ").append((char) ('a' + i)).append(' ').append(fish[i]).append(' ').append(rest);
            text.append(';');
        }
        return text.toString();
    }

    /** Houses a, b, c .. of the fears told, and pairs as "ba": b hears of a. */
    static HerringShares fears(String fears, String... pairs) {
        StringBuilder text = new StringBuilder();
        for (int i = 0; i < fears.length(); i++) {
            text.append("house ").append((char) ('a' + i)).append(" 5 5 5 ").append(fears.charAt(i)).append(';');
        }
        for (String pair : pairs) {
            text.append("hears ").append(pair.charAt(0)).append(' ').append(pair.charAt(1)).append(';');
        }
        return Due.town(text.toString());
    }

    /** The LOT as the document tells it, in wide numbers that are cut to 32 bits. */
    static int lot(int n, int seed, int which) {
        long cut = 0xffffffffL;
        long h = seed & cut;
        for (long it : new long[] {115, which & cut}) {
            h = (h ^ it) * 1103515245L + 12345L & cut;
            h = h ^ h / 32768;
        }
        return (int) (h / 2 % n);
    }

    /** The first seed, if there is one, whose LOT 100 of day 0 is so much. */
    static int seedOfLot(int lot) {
        for (int seed = 0; seed < 10000; seed++) {
            if (lot(100, seed, 0) == lot) {
                return seed;
            }
        }
        throw new IllegalStateException("no seed has the LOT " + lot);
    }
}
