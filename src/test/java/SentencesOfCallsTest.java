/** Promises 1 to 13 and 37 to 39: each sentence that names a bound or a refusal has a method of its own. */
public final class SentencesOfCallsTest {
    private static final Due DUE = new Due();
    private static final int LEAST = Sentence.LEAST;
    private static final int MOST = Sentence.MOST;
    private static final int[] NO_AMOUNTS = {0, -1, 100, 101, LEAST, MOST};

    public static void main(String[] args) {
        newObject();
        feedBringsTwentyBytes();
        feedHighestFirst();
        feedUpTo2000();
        backTakesTheLast();
        backNot();
        readEmptiesTheTape();
        readNumbers();
        placeOfTheLatest();
        houseOfEach();
        houseGaveToNobody();
        houseNoneForOthers();
        tellsPriceWhateverHouse();
        tellsNone();
        buyOneToNinetyNine();
        buyNotSoManyFish();
        buyNotSoManyCoins();
        buyMoreThan9999Fish();
        buyMoreThan9999Coins();
        buyNoSuchOnes();
        buyOneAndTheSame();
        eatOneToNinetyNine();
        eatNotSoMany();
        eatNoSuchOnes();
        saltsOneToNinetyNine();
        saltsNotSoManyThatAreNotSalted();
        saltsNotSoMuchSalt();
        saltsNoSuchOnes();
        proxyTakenBack();
        proxyItIsSo();
        proxyToAnotherInstead();
        proxyNoSuchOnes();
        proxyOneAndTheSame();
        daysUpTo60();
        days0IsNoThingDone();
        daysNoSuchN();
        undoEach();
        undoNone();
        undoTheLast40();
        whatCannotBeUndone();
        holdSlots();
        holdNotTheToldNorTheTape();
        restoreStaysThere();
        restoreNothingCanBeUndone();
        restoreNot();
        countOfEach();
        countNoneForOthers();
        DUE.end();
    }

    private static HerringShares two() {
        return Due.town("house a 20 100 3 1;house b 10 30 5 2;hears a b;motion m a;price=3;eats=1;rots=1;salt 15;");
    }

    /** A call that is refused, and all is as it was: that is looked at first, ahead of the call. */
    private static void refused(String was, String call, int want, int got, HerringShares x) {
        DUE.is(call, want, got);
        DUE.is(call + ": nothing happens", true, Sentence.same(was, x));
    }

    private static void refused(String was, String call, boolean got, HerringShares x) {
        refused(was, call, 0, got ? 1 : 0, x);
    }

    private static void newObject() {
        DUE.about("1: No HOUSES");
        HerringShares x = new HerringShares();
        for (int what = 0; what < 15; what++) {
            DUE.is("count(" + what + ")", what == 7 ? 20 : 0, x.count(what));
        }
        DUE.is("panic(0)", -1, x.panic(0));
        DUE.is("house(0, 0)", -1, x.house(0, 0));
        DUE.is("it is as if an empty text were read", true, Sentence.same(Sentence.all(Due.town("")), x));
        DUE.is("NONE", -1, HerringShares.NONE);
    }

    private static void feedBringsTwentyBytes() {
        DUE.about("2: Twenty bytes come behind the tape: how many it has");
        HerringShares x = new HerringShares();
        DUE.is("feed", 20, x.feed(0, 0, 0, 0, 0));
        DUE.is("feed", 40, x.feed(-1, -1, -1, -1, -1));
        x.back(7);
        DUE.is("feed", 53, x.feed(LEAST, MOST, 0, 1, -1));
        DUE.is("count(8)", 53, x.count(8));
    }

    private static void feedHighestFirst() {
        DUE.about("2: the highest of a first");
        HerringShares x = new HerringShares();
        // "salt" " 987" "; od" "ds 0" ";   "
        x.feed(0x73616c74, 0x20393837, 0x3b206f64, 0x64732030, 0x3b202020);
        DUE.is("read", 0, x.read());
        DUE.is("SALT", 987, x.count(7));
        for (int at = 0; at < 20; at++) {
            int[] words = {0x20202020, 0x20202020, 0x20202020, 0x20202020, 0x20202020};
            // a byte 255 in the place of one blank: the highest bit of a word is one of a byte, too
            words[at / 4] |= 0xff << 24 - at % 4 * 8;
            x.feed(words[0], words[1], words[2], words[3], words[4]);
            DUE.is("read", 1, x.read());
            DUE.is("place", at, x.place());
        }
    }

    private static void feedUpTo2000() {
        DUE.about("2: NONE, and nothing comes, if it would have more than 2,000");
        HerringShares x = new HerringShares();
        for (int i = 1; i <= 100; i++) {
            DUE.is("feed", 20 * i, x.feed(0x20202020, 0x20202020, 0x20202020, 0x20202020, 0x20202020));
        }
        refused(Sentence.all(x), "feed at 2,000", -1, x.feed(0, 0, 0, 0, 0), x);
        x.back(1);
        refused(Sentence.all(x), "feed at 1,999", -1, x.feed(0, 0, 0, 0, 0), x);
        x.back(18);
        DUE.is("feed at 1,981", -1, x.feed(0, 0, 0, 0, 0));
        DUE.is("count(8)", 1981, x.count(8));
        x.back(1);
        DUE.is("feed at 1,980", 2000, x.feed(0x20202020, 0x20202020, 0x20202020, 0x20202020, 0x20202020));
        DUE.is("nothing of the refused ones came", 0, x.read());
    }

    private static void backTakesTheLast() {
        DUE.about("3: The last n bytes of the tape go: how many it has");
        HerringShares x = new HerringShares();
        Due.put(x, "salt 5;salt 6;seed");
        DUE.is("back(0)", 18, x.back(0));
        DUE.is("back(4)", 14, x.back(4));
        DUE.is("read", 0, x.read());
        DUE.is("SALT", 6, x.count(7));
        Due.put(x, "salt 7;");
        DUE.is("back(7), all", 0, x.back(7));
        DUE.is("back(0) of nothing", 0, x.back(0));
        // what went is not read, though it would go on with what is left
        Due.put(x, "house abcdefghijklmn");
        DUE.is("back(6)", 14, x.back(6));
        DUE.is("read", 1, x.read());
        DUE.is("a NAME of 8 letters, then the end", 14, x.place());
        Due.put(x, "seed 123456789012345");
        DUE.is("back(11)", 9, x.back(11));
        DUE.is("read", 1, x.read());
        DUE.is("an INT of 4 digits, then the end", 9, x.place());
        Due.put(x, "salt 8;");
        DUE.is("read", 0, x.read());
        DUE.is("SALT", 8, x.count(7));
    }

    private static void backNot() {
        DUE.about("3: NONE, and nothing goes, if it has not so many, or n is below 0");
        HerringShares x = new HerringShares();
        DUE.is("back(1) of nothing", -1, x.back(1));
        Due.put(x, "salt 5;");
        String was = Sentence.all(x);
        for (int n : new int[] {8, -1, -7, 2000, LEAST, MOST}) {
            refused(was, "back(" + n + ")", -1, x.back(n), x);
        }
        DUE.is("back(7)", 0, x.back(7));
    }

    private static void readEmptiesTheTape() {
        DUE.about("4: The tape, which is empty then, is read");
        HerringShares x = new HerringShares();
        Due.put(x, "salt 5;");
        DUE.is("read", 0, x.read());
        DUE.is("count(8)", 0, x.count(8));
        Due.put(x, "salt");
        DUE.is("read", 1, x.read());
        DUE.is("count(8)", 0, x.count(8));
        Due.put(x, " 9;");
        DUE.is("what was there is not read again", 1, x.read());
        DUE.is("an empty one", 0, x.read());
    }

    private static void readNumbers() {
        DUE.about("4: 0, or the number of its FAULT");
        String[] texts = {"", "x", "price=(((((((", "motion m;motion m;", "hears x y;", "salt 1000;"};
        HerringShares x = new HerringShares();
        for (int i = 0; i < texts.length; i++) {
            Due.put(x, texts[i]);
            DUE.is("read of " + texts[i], i, x.read());
        }
    }

    private static void placeOfTheLatest() {
        DUE.about("5: The byte of the latest read()'s FAULT; NONE without");
        HerringShares x = new HerringShares();
        DUE.is("nothing was read", -1, x.place());
        Due.put(x, "salt ;");
        x.read();
        DUE.is("a FAULT", 5, x.place());
        Due.put(x, "salt 1000;");
        DUE.is("a text that is not read yet", 5, x.place());
        x.days(1);
        DUE.is("another call", 5, x.place());
        x.read();
        DUE.is("5 again", 5, x.place());
        Due.put(x, "x");
        x.read();
        DUE.is("byte 0", 0, x.place());
        x.read();
        DUE.is("without", -1, x.place());
    }

    private static void houseOfEach() {
        DUE.about("6: what 0 FISH .. 9 of whom it hears (bits)");
        HerringShares x = Due.town("house a 20 100 3 1;house b 10 30 5 2;house c 4 0 0 9;hears a b;hears a c;hears c b;"
                + "price=3;salt 15;votes=fish+1;");
        x.salts(0, 6);
        x.eat(0, 1);
        x.buy(0, 1, 2);
        x.proxy(2, 0);
        int[][] want = {{21, 94, 3, 1, 6, 1, -2, 22, 27, 6}, {8, 36, 5, 2, 0, 0, -2, 9, 9, 0},
            {4, 0, 0, 9, 0, 0, 0, 5, 0, 2}};
        for (int h = 0; h < 3; h++) {
            for (int what = 0; what < 10; what++) {
                DUE.is("house(" + h + ", " + what + ")", want[h][what], x.house(h, what));
            }
        }
    }

    private static void houseGaveToNobody() {
        DUE.about("6: to whom it gave its VOTES (-2: nobody)");
        HerringShares x = two();
        DUE.is("nobody", -2, x.house(1, 6));
        x.proxy(1, 0);
        DUE.is("the first one", 0, x.house(1, 6));
        x.proxy(1, -1);
        DUE.is("nobody", -2, x.house(1, 6));
    }

    private static void houseNoneForOthers() {
        DUE.about("6: NONE for others");
        HerringShares x = two();
        for (int what : new int[] {-1, -2, 10, 11, LEAST, MOST}) {
            DUE.is("house(0, " + what + ")", -1, x.house(0, what));
        }
        for (int what = 0; what < 10; what++) {
            DUE.is("house(2, " + what + ")", -1, x.house(2, what));
            for (int h : Sentence.NO_HOUSES) {
                DUE.is("house(" + h + ", " + what + ")", -1, x.house(h, what));
            }
        }
        HerringShares seven = Due.town(Sentence.houses("1 1 1", 1, 2, 3, 4, 5, 6, 7));
        DUE.is("the seventh one", 7, seven.house(6, 0));
        DUE.is("no eighth one", -1, seven.house(7, 0));
    }

    private static void tellsPriceWhateverHouse() {
        DUE.about("7: what 0 PRICE (whatever HOUSE)");
        HerringShares x = two();
        DUE.is("tells(1, 0)", 3, x.tells(1, 0));
        DUE.is("tells(2, 0)", 3, x.tells(2, 0));
        for (int h : Sentence.NO_HOUSES) {
            DUE.is("tells(" + h + ", 0)", 3, x.tells(h, 0));
            DUE.is("without HOUSES", 10, new HerringShares().tells(h, 0));
        }
    }

    private static void tellsNone() {
        DUE.about("7: NONE: no such ones");
        HerringShares x = two();
        for (int what = 1; what < 4; what++) {
            DUE.is("tells(2, " + what + ")", -1, x.tells(2, what));
            for (int h : Sentence.NO_HOUSES) {
                DUE.is("tells(" + h + ", " + what + ")", -1, x.tells(h, what));
            }
        }
        for (int what : new int[] {-1, -2, 4, 5, LEAST, MOST}) {
            DUE.is("tells(0, " + what + ")", -1, x.tells(0, what));
        }
    }

    private static void buyOneToNinetyNine() {
        DUE.about("8: BUYS n (1 .. 99) of another one: what was paid");
        HerringShares x = Due.town("house a 99 0 0 0;house b 0 999 0 0;price=10;");
        DUE.is("one", 10, x.buy(1, 0, 1));
        x = Due.town("house a 99 0 0 0;house b 0 999 0 0;price=10;");
        DUE.is("99", 990, x.buy(1, 0, 99));
        DUE.is("FISH of a", 0, x.house(0, 0));
        DUE.is("COINS of a", 990, x.house(0, 1));
        DUE.is("FISH of b", 99, x.house(1, 0));
        DUE.is("COINS of b", 9, x.house(1, 1));
        x = two();
        String was = Sentence.all(x);
        for (int n : NO_AMOUNTS) {
            refused(was, "buy(0, 1, " + n + ")", -1, x.buy(0, 1, n), x);
        }
    }

    private static void buyNotSoManyFish() {
        DUE.about("8: -2, and nothing happens: not so many FISH");
        HerringShares x = two();
        refused(Sentence.all(x), "11 of 10", -2, x.buy(0, 1, 11), x);
        DUE.is("10 of 10", 30, x.buy(0, 1, 10));
        refused(Sentence.all(x), "1 of none", -2, x.buy(0, 1, 1), x);
    }

    private static void buyNotSoManyCoins() {
        DUE.about("8: -2, and nothing happens: not so many COINS");
        HerringShares x = two();
        refused(Sentence.all(x), "33 COINS of 30", -2, x.buy(1, 0, 11), x);
        DUE.is("30 of 30", 30, x.buy(1, 0, 10));
        refused(Sentence.all(x), "3 of none", -2, x.buy(1, 0, 1), x);
    }

    private static void buyMoreThan9999Fish() {
        DUE.about("8: -2, and nothing happens: more than 9,999 FISH");
        HerringShares x = Due.town("house a 0 999 0 0;house b 99 0 0 0;odds 100;glut=99;price=1;");
        x.days(60);
        x.days(40);
        DUE.is("FISH", 9900, x.house(0, 0));
        DUE.is("9,999 FISH", 99, x.buy(0, 1, 99));
        DUE.is("FISH", 9999, x.house(0, 0));
        refused(Sentence.all(x), "10,000 FISH", -2, x.buy(0, 1, 1), x);
        x.eat(0, 1);
        refused(Sentence.all(x), "10,000 FISH", -2, x.buy(0, 1, 2), x);
        DUE.is("9,999 FISH", 1, x.buy(0, 1, 1));
        for (int buyer = 0; buyer < 3; buyer++) {
            x = Due.town("house a 99 999 0 0;house b 99 999 0 0;house c 99 999 0 0;odds 100;price=1;glut=if which<"
                    + buyer + " then 0 else if " + buyer + "<which then 0 else 99;");
            x.days(60);
            x.days(60);
            DUE.is("FISH of " + buyer, 9999, x.house(buyer, 0));
            int other = (buyer + 1) % 3;
            refused(Sentence.all(x), buyer + " buys", -2, x.buy(buyer, other, 1), x);
            DUE.is(other + " buys", 99, x.buy(other, buyer, 99));
            DUE.is("9,999 FISH", 99, x.buy(buyer, (buyer + 2) % 3, 99));
        }
    }

    private static void buyMoreThan9999Coins() {
        DUE.about("8: more than 9,999 COINS");
        // seven HOUSES have 6,993 COINS at most, and COINS only go from one to another: none has more than that
        HerringShares x = Due.town(Sentence.houses("999 1 1", 99, 0, 0, 0, 0, 0, 0) + "price=99;");
        for (int h = 1; h < 7; h++) {
            DUE.is("990 COINS", 990, x.buy(h, 0, 10));
        }
        DUE.is("COINS of a", 999 + 6 * 990, x.house(0, 1));
        DUE.is("COINS of all", 7 * 999, x.count(5));
    }

    private static void buyNoSuchOnes() {
        DUE.about("8: NONE: no such ones");
        HerringShares x = two();
        String was = Sentence.all(x);
        for (int h : Sentence.NO_HOUSES) {
            DUE.is("buy(" + h + ", 0, 1)", -1, x.buy(h, 0, 1));
            DUE.is("buy(0, " + h + ", 1)", -1, x.buy(0, h, 1));
        }
        DUE.is("buy(2, 0, 1)", -1, x.buy(2, 0, 1));
        DUE.is("buy(0, 2, 99)", -1, x.buy(0, 2, 99));
        DUE.is("nothing happens", true, Sentence.same(was, x));
    }

    private static void buyOneAndTheSame() {
        DUE.about("8: NONE: one and the same");
        HerringShares x = two();
        String was = Sentence.all(x);
        refused(was, "buy(0, 0, 1)", -1, x.buy(0, 0, 1), x);
        refused(was, "buy(1, 1, 99)", -1, x.buy(1, 1, 99), x);
    }

    private static void eatOneToNinetyNine() {
        DUE.about("9: EATS n (1 .. 99): FISH then");
        HerringShares x = Due.town("house a 99 0 0 0;house b 99 0 0 0;");
        DUE.is("one", 98, x.eat(0, 1));
        DUE.is("99", 0, x.eat(1, 99));
        DUE.is("ate", 99, x.house(1, 5));
        x = two();
        String was = Sentence.all(x);
        for (int n : NO_AMOUNTS) {
            refused(was, "eat(0, " + n + ")", -1, x.eat(0, n), x);
        }
    }

    private static void eatNotSoMany() {
        DUE.about("9: -2, and nothing happens: not so many");
        HerringShares x = two();
        refused(Sentence.all(x), "11 of 10", -2, x.eat(1, 11), x);
        DUE.is("10 of 10", 0, x.eat(1, 10));
        refused(Sentence.all(x), "1 of none", -2, x.eat(1, 1), x);
    }

    private static void eatNoSuchOnes() {
        DUE.about("9: NONE: no such ones");
        HerringShares x = two();
        String was = Sentence.all(x);
        DUE.is("eat(2, 1)", -1, x.eat(2, 1));
        for (int h : Sentence.NO_HOUSES) {
            DUE.is("eat(" + h + ", 1)", -1, x.eat(h, 1));
        }
        DUE.is("nothing happens", true, Sentence.same(was, x));
    }

    private static void saltsOneToNinetyNine() {
        DUE.about("10: SALTS n (1 .. 99): SALT then");
        HerringShares x = Due.town("house a 99 0 0 0;house b 99 0 0 0;salt 101;");
        DUE.is("one", 100, x.salts(0, 1));
        DUE.is("99", 1, x.salts(1, 99));
        DUE.is("salted ones", 99, x.house(1, 4));
        x = two();
        String was = Sentence.all(x);
        for (int n : NO_AMOUNTS) {
            refused(was, "salts(0, " + n + ")", -1, x.salts(0, n), x);
        }
    }

    private static void saltsNotSoManyThatAreNotSalted() {
        DUE.about("10: -2, and nothing happens: not so many that are not salted");
        HerringShares x = two();
        refused(Sentence.all(x), "11 of 10", -2, x.salts(1, 11), x);
        x.salts(1, 4);
        refused(Sentence.all(x), "7 of 6", -2, x.salts(1, 7), x);
        DUE.is("6 of 6", 5, x.salts(1, 6));
        refused(Sentence.all(x), "1 of none", -2, x.salts(1, 1), x);
    }

    private static void saltsNotSoMuchSalt() {
        DUE.about("10: -2, and nothing happens: not so much SALT");
        HerringShares x = two();
        refused(Sentence.all(x), "16 of 15", -2, x.salts(0, 16), x);
        DUE.is("15 of 15", 0, x.salts(0, 15));
        refused(Sentence.all(x), "1 of none", -2, x.salts(1, 1), x);
    }

    private static void saltsNoSuchOnes() {
        DUE.about("10: NONE: no such ones");
        HerringShares x = two();
        String was = Sentence.all(x);
        DUE.is("salts(2, 1)", -1, x.salts(2, 1));
        for (int h : Sentence.NO_HOUSES) {
            DUE.is("salts(" + h + ", 1)", -1, x.salts(h, 1));
        }
        DUE.is("nothing happens", true, Sentence.same(was, x));
    }

    private static void proxyTakenBack() {
        DUE.about("11: Gives its VOTES in PROXY to another one (NONE: takes them back): true");
        HerringShares x = two();
        DUE.is("gives", true, x.proxy(0, 1));
        DUE.is("VOTES that b has", 30, x.house(1, 8));
        DUE.is("VOTES that a has", 0, x.house(0, 8));
        DUE.is("takes them back", true, x.proxy(0, -1));
        DUE.is("VOTES that b has", 10, x.house(1, 8));
        DUE.is("VOTES that a has", 20, x.house(0, 8));
    }

    private static void proxyItIsSo() {
        DUE.about("11: false, and nothing happens: it is so");
        HerringShares x = two();
        refused(Sentence.all(x), "nothing was given", x.proxy(0, -1), x);
        x.proxy(0, 1);
        refused(Sentence.all(x), "given already", x.proxy(0, 1), x);
        refused(Sentence.all(x), "b has one, and gave none to take back", x.proxy(1, -1), x);
        x.proxy(0, -1);
        refused(Sentence.all(x), "taken back already", x.proxy(0, -1), x);
    }

    private static void proxyToAnotherInstead() {
        DUE.about("11: given to one, then to another one");
        HerringShares x = Due.town(Sentence.houses("1 1 1", 1, 2, 4));
        x.proxy(0, 1);
        DUE.is("to c instead", true, x.proxy(0, 2));
        DUE.is("VOTES that b has", 2, x.house(1, 8));
        DUE.is("VOTES that c has", 5, x.house(2, 8));
        DUE.is("b, who has none now, may give his", true, x.proxy(1, 2));
        DUE.is("VOTES that c has", 7, x.house(2, 8));
    }

    private static void proxyNoSuchOnes() {
        DUE.about("11: false, and nothing happens: no such ones");
        HerringShares x = two();
        String was = Sentence.all(x);
        DUE.is("proxy(2, 0)", false, x.proxy(2, 0));
        DUE.is("proxy(2, -1)", false, x.proxy(2, -1));
        DUE.is("proxy(0, 2)", false, x.proxy(0, 2));
        for (int h : Sentence.NO_HOUSES) {
            DUE.is("proxy(" + h + ", 0)", false, x.proxy(h, 0));
            DUE.is("proxy(" + h + ", -1)", false, x.proxy(h, -1));
            DUE.is("proxy(0, " + h + ")", false, x.proxy(0, h));
        }
        DUE.is("nothing happens", true, Sentence.same(was, x));
        x.proxy(0, 1);
        was = Sentence.all(x);
        refused(was, "-2 takes nothing back", x.proxy(0, -2), x);
    }

    private static void proxyOneAndTheSame() {
        DUE.about("11: false, and nothing happens: one and the same");
        HerringShares x = two();
        refused(Sentence.all(x), "proxy(0, 0)", x.proxy(0, 0), x);
        x.proxy(0, 1);
        refused(Sentence.all(x), "proxy(0, 0)", x.proxy(0, 0), x);
        refused(Sentence.all(x), "proxy(1, 1)", x.proxy(1, 1), x);
    }

    private static void daysUpTo60() {
        DUE.about("12: n DAYS (0 .. 60) go by: which it is");
        HerringShares x = Due.town("house a 99 1 1 1;eats=1;");
        DUE.is("days(1)", 1, x.days(1));
        DUE.is("FISH", 98, x.house(0, 0));
        DUE.is("days(60)", 61, x.days(60));
        DUE.is("FISH", 38, x.house(0, 0));
        DUE.is("without HOUSES", 60, new HerringShares().days(60));
    }

    private static void days0IsNoThingDone() {
        DUE.about("12: 0 is no thing done");
        HerringShares x = two();
        refused(Sentence.all(x), "days(0)", 0, x.days(0), x);
        x.days(3);
        refused(Sentence.all(x), "days(0)", 3, x.days(0), x);
        DUE.is("what was done ahead of it is undone", true, x.undo());
        DUE.is("day", 0, x.count(3));
    }

    private static void daysNoSuchN() {
        DUE.about("12: NONE, and nothing happens: no such n");
        HerringShares x = two();
        String was = Sentence.all(x);
        for (int n : new int[] {-1, 61, 62, LEAST, MOST}) {
            refused(was, "days(" + n + ")", -1, x.days(n), x);
        }
    }

    private static void undoEach() {
        DUE.about("13: The last thing done (buy, eat, salts, proxy, days) is undone");
        // two of them, as looking at all takes some fifty of an object's 512 calls
        HerringShares looked = two();
        HerringShares x = two();
        String[] was = new String[5];
        for (int i = 0; i < 5; i++) {
            was[i] = Sentence.all(looked);
            doOne(looked, i);
            doOne(x, i);
        }
        for (int i = 4; i >= 0; i--) {
            DUE.is("undo", true, x.undo());
            DUE.is("as it was", true, Sentence.same(was[i], x));
        }
        x.proxy(0, 1);
        x.proxy(0, -1);
        DUE.is("undo what was taken back", true, x.undo());
        DUE.is("to whom", 1, x.house(0, 6));
        undoOfSeven();
    }

    private static void doOne(HerringShares x, int which) {
        switch (which) {
            case 0 -> x.buy(0, 1, 4);
            case 1 -> x.salts(0, 6);
            case 2 -> x.proxy(1, 0);
            case 3 -> x.eat(0, 20);
            default -> x.days(2);
        }
    }

    private static HerringShares seven() {
        HerringShares x = Due.town(Sentence.houses("50 1 1", 11, 12, 13, 14, 15, 16, 17) + "price=1;");
        x.salts(6, 3);
        x.eat(6, 2);
        x.proxy(6, 5);
        return x;
    }

    private static void undoOfSeven() {
        HerringShares x = seven();
        String was = Sentence.all(x);
        x.proxy(6, -1);
        x.buy(6, 0, 4);
        x.eat(6, 18);
        for (int i = 0; i < 3; i++) {
            DUE.is("undo of the seventh one's", true, x.undo());
        }
        DUE.is("as it was", true, Sentence.same(was, x));
    }

    private static void undoNone() {
        DUE.about("13: false: there is none");
        HerringShares x = two();
        refused(Sentence.all(x), "undo", x.undo(), x);
        x.buy(0, 1, 99);
        x.eat(0, 99);
        x.salts(0, 99);
        x.proxy(0, 0);
        x.days(61);
        DUE.is("refused calls are no things done", false, x.undo());
        x.eat(0, 1);
        DUE.is("one", true, x.undo());
        DUE.is("no more", false, x.undo());
    }

    private static void undoTheLast40() {
        DUE.about("13: the last 40 can be");
        for (int done : new int[] {39, 40, 41, 79, 80, 81, 95}) {
            HerringShares x = Due.town("house a 99 0 0 0;");
            for (int i = 0; i < done; i++) {
                x.eat(0, 1);
            }
            int can = Math.min(40, done);
            DUE.is("count(9) of " + done, can, x.count(9));
            for (int i = 1; i <= can; i++) {
                DUE.is("undo", true, x.undo());
                DUE.is("FISH", 99 - done + i, x.house(0, 0));
            }
            DUE.is("no more", false, x.undo());
            DUE.is("FISH", 99 - done + can, x.house(0, 0));
            x.eat(0, 1);
            DUE.is("but what is done then", true, x.undo());
            DUE.is("FISH", 99 - done + can, x.house(0, 0));
        }
    }

    private static void whatCannotBeUndone() {
        DUE.about("13: (buy, eat, salts, proxy, days) alone");
        HerringShares x = two();
        x.tell(0, true);
        x.feed(0, 0, 0, 0, 0);
        x.hold(0);
        x.back(2);
        x.forget();
        DUE.is("undo", false, x.undo());
        x.eat(0, 1);
        x.tell(0, true);
        x.hold(1);
        DUE.is("undo", true, x.undo());
        DUE.is("TOLD", 1, x.count(10));
        DUE.is("SLOTS", 2, x.count(11));
        DUE.is("bytes", 18, x.count(8));
    }

    private static void holdSlots() {
        DUE.about("37: All that goes on is held in a SLOT (0 .. 2): true; false: no such one");
        HerringShares x = two();
        String[] was = new String[3];
        for (int slot = 0; slot < 3; slot++) {
            x.days(1);
            x.salts(0, 1);
            x.buy(0, 1, 1);
            x.proxy(0, slot % 2 == 0 ? 1 : -1);
            DUE.is("hold(" + slot + ")", true, x.hold(slot));
            DUE.is("SLOTS", slot + 1, x.count(11));
            was[slot] = Sentence.all(x);
        }
        for (int slot : new int[] {-1, 3, 4, LEAST, MOST}) {
            DUE.is("hold(" + slot + ")", false, x.hold(slot));
        }
        for (int slot : new int[] {1, 0, 2, 0}) {
            DUE.is("restore(" + slot + ")", true, x.restore(slot));
            DUE.is("as it was", heldPart(was[slot]), heldPart(Sentence.all(x)));
        }
        x.eat(0, 1);
        DUE.is("held anew", true, x.hold(1));
        DUE.is("SLOTS", 3, x.count(11));
        int fish = x.house(0, 0);
        x.days(1);
        x.restore(1);
        DUE.is("FISH", fish, x.house(0, 0));
        x = seven();
        x.hold(2);
        long held = heldPart(Sentence.all(x));
        x.proxy(6, 4);
        x.buy(6, 0, 4);
        x.days(3);
        x.restore(2);
        DUE.is("of seven, as it was", held, heldPart(Sentence.all(x)));
    }

    /** All but how much can be undone and how many SLOTS hold something. */
    private static long heldPart(String all) {
        String[] parts = all.split(" ");
        parts[9] = "";
        parts[11] = "";
        return String.join(" ", parts).hashCode();
    }

    private static void holdNotTheToldNorTheTape() {
        DUE.about("37: (not what is TOLD, nor the tape)");
        HerringShares x = two();
        x.tell(0, true);
        Due.put(x, "salt 5;");
        x.hold(0);
        x.tell(1, true);
        Due.put(x, "seed 7;");
        x.restore(0);
        DUE.is("TOLD", 2, x.count(10));
        DUE.is("bytes", 14, x.count(8));
        x.forget();
        x.back(14);
        x.restore(0);
        DUE.is("TOLD", 0, x.count(10));
        DUE.is("bytes", 0, x.count(8));
    }

    private static void restoreStaysThere() {
        DUE.about("38: It goes on from what a SLOT holds (that stays there)");
        HerringShares x = two();
        x.days(1);
        x.hold(2);
        for (int i = 0; i < 3; i++) {
            x.days(5);
            x.eat(0, 1);
            DUE.is("restore", true, x.restore(2));
            DUE.is("day", 1, x.count(3));
            DUE.is("SLOTS", 1, x.count(11));
            DUE.is("goes on", 2, x.days(1));
        }
    }

    private static void restoreNothingCanBeUndone() {
        DUE.about("38: nothing can be undone then");
        HerringShares x = two();
        x.eat(0, 1);
        x.hold(0);
        x.eat(0, 1);
        DUE.is("hold leaves what can be undone", 2, x.count(9));
        x.restore(0);
        DUE.is("count(9)", 0, x.count(9));
        refused(Sentence.all(x), "undo", x.undo(), x);
        x.eat(0, 1);
        DUE.is("but what is done then", true, x.undo());
        DUE.is("FISH", 19, x.house(0, 0));
    }

    private static void restoreNot() {
        DUE.about("38: false, and nothing happens: no such one, nothing is held");
        HerringShares x = two();
        x.eat(0, 1);
        x.hold(1);
        x.eat(0, 1);
        String was = Sentence.all(x);
        for (int slot : new int[] {0, 2, 3, -1, LEAST, MOST}) {
            refused(was, "restore(" + slot + ")", x.restore(slot), x);
        }
        DUE.is("a new object", false, new HerringShares().restore(0));
        DUE.is("hold without HOUSES", true, new HerringShares().hold(2));
    }

    private static void countOfEach() {
        DUE.about("39: 0 HOUSES .. 14 salted ones of all");
        HerringShares x = Due.town("house a 20 100 3 1;house b 10 30 5 2;house c 4 1 0 9;hears a b;hears a c;motion m a;"
                + "motion n;motion o;motion p;price=3;salt 15;votes=fish+1;odds 100;eats=1;");
        x.salts(0, 6);
        x.salts(1, 2);
        x.proxy(2, 0);
        x.days(2);
        x.tell(0, true);
        x.hold(1);
        x.hold(2);
        Due.put(x, "salt");
        int[] want = {3, 2, 4, 2, 34 - 6 + 30, 131, 6, 7, 4, 4, 1, 2, 61, 1, 8};
        for (int what = 0; what < 15; what++) {
            DUE.is("count(" + what + ")", want[what], x.count(what));
        }
    }

    private static void countNoneForOthers() {
        DUE.about("39: NONE for others");
        for (int what : new int[] {-1, -2, 15, 16, LEAST, MOST}) {
            DUE.is("count(" + what + ")", -1, two().count(what));
            DUE.is("count(" + what + ") of a new object", -1, new HerringShares().count(what));
        }
    }
}
