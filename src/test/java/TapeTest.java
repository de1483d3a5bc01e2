/** Promises 1 to 3: a new object, feed, back; and of read and place what the tape does. */
public final class TapeTest {
    private static final Due DUE = new Due();

    public static void main(String[] args) {
        newObject();
        feedAndBack();
        highestByteFirst();
        bytesAbove127();
        readEmptiesTheTape();
        DUE.end();
    }

    private static void newObject() {
        DUE.about("promise 1");
        HerringShares x = new HerringShares();
        int[] counts = {0, 0, 0, 0, 0, 0, 0, 20, 0, 0, 0, 0, 0, 0, 0};
        for (int i = 0; i < counts.length; i++) {
            DUE.is("count(" + i + ")", counts[i], x.count(i));
        }
        DUE.is("NONE", -1, HerringShares.NONE);
        DUE.is("place", -1, x.place());
        DUE.is("house", -1, x.house(0, 0));
        DUE.is("price", 10, x.tells(0, 0));
        DUE.is("undo", false, x.undo());
        DUE.is("restore", false, x.restore(0));
    }

    private static void feedAndBack() {
        DUE.about("promises 2, 3");
        HerringShares x = new HerringShares();
        for (int i = 1; i <= 99; i++) {
            DUE.is("feed " + i, 20 * i, x.feed(i, 0, -1, i, i));
        }
        DUE.is("back(0)", 1980, x.back(0));
        DUE.is("feed, the last that there is room for", 2000, x.feed(1, 2, 3, 4, 5));
        DUE.is("feed, too much", -1, x.feed(1, 2, 3, 4, 5));
        DUE.is("back(1)", 1999, x.back(1));
        DUE.is("feed, too much by 19", -1, x.feed(1, 2, 3, 4, 5));
        DUE.is("count(8)", 1999, x.count(8));
        DUE.is("back(18)", 1981, x.back(18));
        DUE.is("feed, too much by one", -1, x.feed(1, 2, 3, 4, 5));
        DUE.is("back(-1)", -1, x.back(-1));
        DUE.is("back(1982)", -1, x.back(1982));
        DUE.is("back(least)", -1, x.back(Integer.MIN_VALUE));
        DUE.is("back(most)", -1, x.back(Integer.MAX_VALUE));
        DUE.is("count(8)", 1981, x.count(8));
        DUE.is("back(1981)", 0, x.back(1981));
        DUE.is("back(1)", -1, x.back(1));
    }

    private static void highestByteFirst() {
        DUE.about("promise 2");
        HerringShares x = new HerringShares();
        // "salt" " 123" "; se" "ed 4" ";   "
        x.feed(0x73616c74, 0x20313233, 0x3b207365, 0x65642034, 0x3b202020);
        DUE.is("read", 0, x.read());
        DUE.is("SALT", 123, x.count(7));
    }

    private static void bytesAbove127() {
        DUE.about("promise 2");
        HerringShares x = new HerringShares();
        x.feed(0xff202020, 0x20202020, 0x20202020, 0x20202020, 0x20202020);
        DUE.is("read of a byte 255", 1, x.read());
        DUE.is("place", 0, x.place());
        x.feed(0x20202020, 0x20202020, 0x20202020, 0x20202020, 0x20202000);
        DUE.is("read of a byte 0", 1, x.read());
        DUE.is("place", 19, x.place());
        x.feed(0x090a0d20, 0x20202020, 0x20202020, 0x20202020, 0x20202020);
        DUE.is("read of blanks", 0, x.read());
        DUE.is("place", -1, x.place());
        x.feed(0x0b202020, 0x20202020, 0x20202020, 0x20202020, 0x20202020);
        DUE.is("read of a byte 11", 1, x.read());
    }

    private static void readEmptiesTheTape() {
        DUE.about("promise 4");
        HerringShares x = new HerringShares();
        Due.put(x, "salt 5; salt");
        DUE.is("count(8)", 12, x.count(8));
        DUE.is("read", 1, x.read());
        DUE.is("count(8)", 0, x.count(8));
        DUE.is("place, the text's end", 12, x.place());
        DUE.is("SALT", 20, x.count(7));
        Due.put(x, "salt 5;");
        DUE.is("read", 0, x.read());
        DUE.is("count(8)", 0, x.count(8));
        DUE.is("place", -1, x.place());
        DUE.is("SALT", 5, x.count(7));
        DUE.is("read of an empty tape", 0, x.read());
        DUE.is("SALT", 20, x.count(7));
    }
}
