/** PANIC and what is TOLD of one, promises 14 to 16, 26 and 33 to 36: a method for each sentence that bounds something. */
public final class SentencesOfPanicsTest {
    private static final Due DUE = new Due();
    private static final int LEAST = Sentence.LEAST;
    private static final int MOST = Sentence.MOST;

    public static void main(String[] args) {
        nothingHappens();
        asManyAsItsFearAndMore();
        fear0NeedsNone();
        againAndAgain();
        whoBeganToo();
        panicNoSuchHouse();
        sparkMostEat();
        sparkTheFirstOfAlike();
        sparkNoHouses();
        sparkNoneForOthers();
        calmNone();
        calmOneTwoThree();
        calmNotByThree();
        calmNeitherOfTheTwo();
        calmNotEatingWhateverTheyHear();
        calmFewest();
        calmTheFirstByTheLeast();
        calmTheFirstByTheNext();
        calmNoSuchOnes();
        calmOneAndTheSame();
        calmNotSoMany();
        quiet();
        quietNoSuchHouse();
        tellNumbers();
        tellTwentyAtMost();
        tellNoSuchHouse();
        forgetHowMany();
        knownByK();
        beganAllThatIsKnown();
        beganNoSuchOnes();
        askFewestAtWorst();
        askTheFirstOfAlike();
        askNobodyIsLeft();
        askNoSuchK();
        DUE.end();
    }

    private static void nothingHappens() {
        DUE.about("III: What would be (nothing happens)");
        HerringShares x = Sentence.fears("0112", "ba", "ca", "cb", "dc", "da");
        x.tell(1, true);
        x.eat(0, 1);
        String was = Sentence.all(x);
        x.panic(0);
        x.spark(0);
        x.calm(0, 3, -1);
        x.quiet(3);
        x.began(1, 0);
        x.ask(1);
        DUE.is("all is as it was", true, Sentence.same(was, x));
    }

    private static void asManyAsItsFearAndMore() {
        DUE.about("eats of whose HEARD ones that eat are as many as its FEAR and more");
        // b, c eat with a; d hears of a, b, c
        String[] pairs = {"ba", "ca", "da", "db", "dc"};
        int[] want = {15, 15, 15, 15, 7, 7};
        for (int fear = 0; fear <= 5; fear++) {
            DUE.is("FEAR " + fear, want[fear], Sentence.fears("111" + fear, pairs).panic(0));
        }
        DUE.is("FEAR 9", 7, Sentence.fears("1119", pairs).panic(0));
        // six hear of all others: FEAR 6 is as many as can be
        DUE.is("FEAR 6 of six", 127, Sentence.fears("1111116", "ba", "ca", "da", "ea", "fa", "ga", "gb", "gc", "gd", "ge",
                "gf").panic(0));
        DUE.is("FEAR 7 of six", 63, Sentence.fears("1111117", "ba", "ca", "da", "ea", "fa", "ga", "gb", "gc", "gd", "ge",
                "gf").panic(0));
    }

    private static void fear0NeedsNone() {
        DUE.about("(0: none are needed)");
        HerringShares x = Sentence.fears("901", "cb");
        DUE.is("b eats, and c hears of it", 7, x.panic(0));
        DUE.is("b", 6, x.panic(1));
        DUE.is("c", 6, x.panic(2));
        DUE.is("nobody hears of anybody", 7, Sentence.fears("000").panic(1));
        DUE.is("FEAR 1, of nobody it hears", 1, Sentence.fears("11").panic(0));
    }

    private static void againAndAgain() {
        DUE.about("then, again and again");
        HerringShares forth = Sentence.fears("1111111", "ba", "cb", "dc", "ed", "fe", "gf");
        HerringShares back = Sentence.fears("1111111", "ab", "bc", "cd", "de", "ef", "fg");
        for (int h = 0; h < 7; h++) {
            DUE.is("down the row from " + h, 127 >> h << h, forth.panic(h));
            DUE.is("up the row from " + h, (2 << h) - 1, back.panic(h));
        }
    }

    private static void whoBeganToo() {
        DUE.about("14: PANIC (bits, who began, too)");
        HerringShares x = Sentence.fears("9999999");
        for (int h = 0; h < 7; h++) {
            DUE.is("panic(" + h + ")", 1 << h, x.panic(h));
        }
    }

    private static void panicNoSuchHouse() {
        DUE.about("14: NONE: no such HOUSE");
        HerringShares x = Sentence.fears("00");
        DUE.is("panic(2)", -1, x.panic(2));
        for (int h : Sentence.NO_HOUSES) {
            DUE.is("panic(" + h + ")", -1, x.panic(h));
        }
        DUE.is("without HOUSES", -1, new HerringShares().panic(0));
    }

    private static void sparkMostEat() {
        DUE.about("SPARK: the HOUSE by which, beginning, most eat; how many");
        HerringShares x = Sentence.fears("1111111", "ab", "bc", "cd", "de", "ef", "fg");
        DUE.is("the last one", 6, x.spark(0));
        DUE.is("how many", 7, x.spark(1));
        x = Sentence.fears("9999", "cb", "db");
        DUE.is("none but itself", 1, x.spark(1));
        DUE.is("all eat, whoever begins", 0, Sentence.fears("000").spark(0));
        DUE.is("all eat, whoever begins", 3, Sentence.fears("000").spark(1));
        DUE.is("one HOUSE", 0, Sentence.fears("5").spark(0));
        DUE.is("one HOUSE", 1, Sentence.fears("5").spark(1));
    }

    private static void sparkTheFirstOfAlike() {
        DUE.about("SPARK: of alike ones the first");
        DUE.is("all alike", 0, Sentence.fears("9999").spark(0));
        DUE.is("b and d", 1, Sentence.fears("1111", "ab", "cd").spark(0));
        DUE.is("c and d", 2, Sentence.fears("1111", "cd", "dc", "ac", "ad").spark(0));
    }

    private static void sparkNoHouses() {
        DUE.about("15: -2: there are no HOUSES");
        DUE.is("spark(0)", -2, new HerringShares().spark(0));
        DUE.is("spark(1)", -2, new HerringShares().spark(1));
    }

    private static void sparkNoneForOthers() {
        DUE.about("15: NONE for others");
        for (int what : new int[] {-1, -2, 2, 3, LEAST, MOST}) {
            DUE.is("spark(" + what + ")", -1, Sentence.fears("11").spark(what));
            DUE.is("spark(" + what + ") without HOUSES", -1, new HerringShares().spark(what));
        }
    }

    private static void calm(HerringShares x, int house, int other, int... want) {
        String call = "calm(" + house + ", " + other + ", ";
        DUE.is(call + "-1)", want.length, x.calm(house, other, -1));
        for (int i = 0; i < 3; i++) {
            DUE.is(call + i + ")", i < want.length ? want[i] : -1, x.calm(house, other, i));
        }
    }

    private static void notCalm(HerringShares x, int house, int other) {
        for (int i = -1; i < 3; i++) {
            DUE.is("calm(" + house + ", " + other + ", " + i + ")", -2, x.calm(house, other, i));
        }
    }

    private static void calmNone() {
        DUE.about("CALM: the fewest HOUSES (0 ..): it does not eat as it is");
        calm(Sentence.fears("11"), 0, 1);
        calm(Sentence.fears("112", "ba", "ca"), 0, 2);
    }

    private static void calmOneTwoThree() {
        DUE.about("16: how many (i NONE), else the i-th one");
        calm(Sentence.fears("111", "ba", "cb"), 0, 2, 1);
        calm(Sentence.fears("1111", "ba", "ca", "db", "dc"), 0, 3, 1, 2);
        calm(Sentence.fears("11111", "ba", "ca", "da", "eb", "ec", "ed"), 0, 4, 1, 2, 3);
        calm(Sentence.fears("11111", "ab", "cb", "db", "ea", "ec", "ed"), 1, 4, 0, 2, 3);
        calm(Sentence.fears("1111111", "fg", "eg", "dg", "af", "ae", "ad"), 6, 0, 3, 4, 5);
    }

    private static void calmNotByThree() {
        DUE.about("16: -2: not by three (i NONE or not)");
        notCalm(Sentence.fears("111111", "ba", "ca", "da", "ea", "fb", "fc", "fd", "fe"), 0, 5);
        notCalm(Sentence.fears("11", "ba"), 0, 1);
        notCalm(Sentence.fears("00"), 0, 1);
        // four would do, and of five one more
        notCalm(Sentence.fears("1111111", "ba", "ca", "da", "ea", "fa", "gb", "gc", "gd", "ge", "gf"), 0, 6);
        calm(Sentence.fears("1111112", "ba", "ca", "da", "ea", "gb", "gc", "gd", "ge"), 0, 6, 1, 2, 3);
    }

    private static void calmNeitherOfTheTwo() {
        DUE.about("CALM: neither of the two");
        // he who began is heard at once, and by b, too
        notCalm(Sentence.fears("111", "ba", "ca", "cb"), 0, 2);
        notCalm(Sentence.fears("011", "ba"), 2, 0);
        calm(Sentence.fears("112", "ba", "ca", "cb"), 0, 2, 1);
    }

    private static void calmNotEatingWhateverTheyHear() {
        DUE.about("CALM: not eating whatever they hear");
        // b needs nobody to eat, but a calmed one does not
        calm(Sentence.fears("101", "cb"), 0, 2, 1);
        calm(Sentence.fears("1001", "db", "dc"), 0, 3, 1, 2);
    }

    private static void calmFewest() {
        DUE.about("CALM: the fewest");
        // b, c or the one d by which both are heard
        calm(Sentence.fears("11111", "da", "bd", "cd", "eb", "ec"), 0, 4, 3);
        // one of the last ones is fewer than two of the first
        calm(Sentence.fears("1111111", "ba", "ca", "fb", "fc", "gf"), 0, 6, 5);
    }

    private static void calmTheFirstByTheLeast() {
        DUE.about("CALM: of alike ones the first by the least HOUSE");
        calm(Sentence.fears("1111", "ba", "cb", "dc"), 0, 3, 1);
        calm(Sentence.fears("1111", "ca", "bc", "db"), 0, 3, 1);
        // (b, f) and (c, d) alone do: (b, f) is the first, though f is behind d
        calm(Sentence.fears("1111111", "ca", "da", "bc", "bd", "fc", "fd", "gb", "gf"), 0, 6, 1, 5);
    }

    private static void calmTheFirstByTheNext() {
        DUE.about("CALM: then the next one");
        // b and one of the row c, d, e
        calm(Sentence.fears("1111111", "ba", "gb", "ea", "de", "cd", "gc"), 0, 6, 1, 2);
        // any two of five
        calm(Sentence.fears("1111114", "ba", "ca", "da", "ea", "fa", "gb", "gc", "gd", "ge", "gf"), 0, 6, 1, 2);
        // b, c and one of the row d, e, f
        calm(Sentence.fears("1111111", "ba", "gb", "ca", "gc", "fa", "ef", "de", "gd"), 0, 6, 1, 2, 3);
    }

    private static void calmNoSuchOnes() {
        DUE.about("16: NONE: no such ones (i 0 .. 2)");
        HerringShares x = Sentence.fears("111", "ba", "cb");
        for (int i : new int[] {-2, 3, 4, LEAST, MOST}) {
            DUE.is("calm(0, 2, " + i + ")", -1, x.calm(0, 2, i));
            DUE.is("calm(0, 1, " + i + "), not by three either", -1, x.calm(0, 1, i));
        }
        for (int h : Sentence.NO_HOUSES) {
            DUE.is("calm(" + h + ", 0, -1)", -1, x.calm(h, 0, -1));
            DUE.is("calm(0, " + h + ", -1)", -1, x.calm(0, h, -1));
        }
        DUE.is("calm(3, 0, -1)", -1, x.calm(3, 0, -1));
        DUE.is("calm(0, 3, 0)", -1, x.calm(0, 3, 0));
        DUE.is("without HOUSES", -1, new HerringShares().calm(0, 1, -1));
    }

    private static void calmOneAndTheSame() {
        DUE.about("16: NONE: one and the same");
        HerringShares x = Sentence.fears("111", "ba", "cb");
        for (int h = 0; h < 3; h++) {
            for (int i = -1; i < 3; i++) {
                DUE.is("calm(" + h + ", " + h + ", " + i + ")", -1, x.calm(h, h, i));
            }
        }
    }

    private static void calmNotSoMany() {
        DUE.about("16: NONE: not so many");
        HerringShares x = Sentence.fears("1111", "ba", "cb", "db", "dc");
        DUE.is("of none, the first", -1, x.calm(3, 0, 0));
        DUE.is("of one, the first", 1, x.calm(0, 3, 0));
        DUE.is("of one, the second", -1, x.calm(0, 3, 1));
        DUE.is("of one, the third", -1, x.calm(0, 3, 2));
    }

    private static void quiet() {
        DUE.about("26: QUIET (bits): those by which, beginning, it does not eat in a PANIC");
        HerringShares x = Sentence.fears("1122", "ba", "ca", "cb", "dc");
        int[] want = {14, 12, 10, 7};
        for (int h = 0; h < 4; h++) {
            DUE.is("quiet(" + h + ")", want[h], x.quiet(h));
        }
        DUE.is("FEAR 0: none", 0, Sentence.fears("0999").quiet(0));
        DUE.is("all but itself", 63, Sentence.fears("9999999").quiet(6));
        DUE.is("one HOUSE", 0, Sentence.fears("9").quiet(0));
    }

    private static void quietNoSuchHouse() {
        DUE.about("26: NONE: no such HOUSE");
        DUE.is("quiet(2)", -1, Sentence.fears("99").quiet(2));
        for (int h : Sentence.NO_HOUSES) {
            DUE.is("quiet(" + h + ")", -1, Sentence.fears("99").quiet(h));
        }
        DUE.is("without HOUSES", -1, new HerringShares().quiet(0));
    }

    private static void tellNumbers() {
        DUE.about("33: It is TOLD: its number (from 0 on)");
        HerringShares x = Sentence.fears("11", "ba");
        DUE.is("tell", 0, x.tell(0, true));
        DUE.is("the same again", 1, x.tell(0, true));
        DUE.is("the other way", 2, x.tell(0, false));
        DUE.is("count(10)", 3, x.count(10));
    }

    private static void tellTwentyAtMost() {
        DUE.about("33: NONE, and nothing happens: 20 are there");
        HerringShares x = Sentence.fears("11", "ba");
        for (int i = 0; i < 20; i++) {
            DUE.is("tell", i, x.tell(i % 2, true));
        }
        String was = Sentence.all(x);
        DUE.is("the 21st", -1, x.tell(0, false));
        DUE.is("the 22nd", -1, x.tell(1, false));
        DUE.is("all is as it was", true, Sentence.same(was, x));
        DUE.is("by a", 1, x.began(20, 1));
        DUE.is("forget", 20, x.forget());
        DUE.is("there is room again", 0, x.tell(0, false));
        DUE.is("by b", 2, x.began(1, 1));
    }

    private static void tellNoSuchHouse() {
        DUE.about("33: NONE, and nothing happens: no such HOUSE");
        HerringShares x = Sentence.fears("11", "ba");
        String was = Sentence.all(x);
        DUE.is("tell(2, true)", -1, x.tell(2, true));
        for (int h : Sentence.NO_HOUSES) {
            DUE.is("tell(" + h + ", false)", -1, x.tell(h, false));
        }
        DUE.is("all is as it was", true, Sentence.same(was, x));
        DUE.is("without HOUSES", -1, new HerringShares().tell(0, true));
    }

    private static void forgetHowMany() {
        DUE.about("34: All that was TOLD is forgotten: how many there were");
        HerringShares x = Sentence.fears("11", "ba");
        DUE.is("none", 0, x.forget());
        x.tell(0, false);
        x.tell(1, false);
        DUE.is("two", 2, x.forget());
        DUE.is("count(10)", 0, x.count(10));
        DUE.is("none", 0, x.forget());
        DUE.is("nothing is KNOWN", 3, x.began(0, 1));
        DUE.is("began(1, 0)", -1, x.began(1, 0));
        x.tell(0, true);
        x.tell(0, true);
        DUE.is("what is TOLD then counts alone", 1, x.began(2, 1));
    }

    private static void knownByK() {
        DUE.about("KNOWN by k: the first k");
        HerringShares x = Sentence.fears("1111", "ab", "bc", "cd");
        x.tell(0, true);
        x.tell(2, false);
        x.tell(1, true);
        x.tell(1, false);
        int[] which = {15, 15, 3, 2, 0};
        int[] ask = {2, 2, 1, 0, -2};
        for (int k = 0; k < 5; k++) {
            DUE.is("began(" + k + ", 1)", which[k], x.began(k, 1));
            DUE.is("began(" + k + ", 0)", Integer.bitCount(which[k]), x.began(k, 0));
            DUE.is("ask(" + k + ")", ask[k], x.ask(k));
        }
        for (int odd = 0; odd < 20; odd++) {
            HerringShares full = Sentence.fears("11", "ba");
            for (int i = 0; i < 20; i++) {
                full.tell(i == odd ? 0 : 1, i != odd);
            }
            for (int k = 0; k <= 20; k++) {
                DUE.is("number " + odd + " tells, began(" + k + ", 1)", k > odd ? 2 : 3, full.began(k, 1));
            }
        }
    }

    private static void beganAllThatIsKnown() {
        DUE.about("BEGAN: HOUSES by which it may have begun, so that all that is KNOWN is so: how many; which (bits)");
        HerringShares x = Sentence.fears("1122", "ba", "ca", "cb", "dc");
        DUE.is("nothing is KNOWN: all", 15, x.began(0, 1));
        DUE.is("nothing is KNOWN: all", 4, x.began(0, 0));
        x.tell(1, true);
        DUE.is("b ate", 3, x.began(1, 1));
        x.tell(2, false);
        DUE.is("c did not", 2, x.began(2, 1));
        x.tell(3, true);
        DUE.is("d ate: nobody", 0, x.began(3, 1));
        DUE.is("d ate: nobody", 0, x.began(3, 0));
        DUE.is("without HOUSES", 0, new HerringShares().began(0, 0));
        DUE.is("without HOUSES", 0, new HerringShares().began(0, 1));
        // the day's eating has nothing to do with it
        x.eat(0, 5);
        DUE.is("b ate", 3, x.began(1, 1));
    }

    private static void beganNoSuchOnes() {
        DUE.about("35: NONE: no such ones");
        HerringShares x = Sentence.fears("11", "ba");
        x.tell(0, true);
        DUE.is("began(1, 0)", 1, x.began(1, 0));
        for (int k : new int[] {-1, -2, 2, 3, 20, 21, LEAST, MOST}) {
            DUE.is("began(" + k + ", 0)", -1, x.began(k, 0));
            DUE.is("began(" + k + ", 1)", -1, x.began(k, 1));
        }
        for (int what : new int[] {-1, -2, 2, 3, LEAST, MOST}) {
            DUE.is("began(1, " + what + ")", -1, x.began(1, what));
        }
        DUE.is("without HOUSES", -1, new HerringShares().began(1, 0));
    }

    private static void askFewestAtWorst() {
        DUE.about("ASK: the HOUSE of which, once it is told, fewest are left, at worst");
        // by who began, a eats for 7 of 7, b for 6 .. g for 1: d tells 4 from 3
        HerringShares x = Sentence.fears("1111111", "ab", "bc", "cd", "de", "ef", "fg");
        DUE.is("ask(0)", 3, x.ask(0));
        x.tell(3, true);
        DUE.is("of d, e, f, g", 5, x.ask(1));
        x.tell(5, false);
        DUE.is("of d, e", 4, x.ask(2));
        // begun by a all three eat, by b or c he alone: each of them tells one from two
        x = Sentence.fears("112", "ca", "cb", "ba");
        DUE.is("the first", 0, x.ask(0));
    }

    private static void askTheFirstOfAlike() {
        DUE.about("ASK: of alike ones the first");
        DUE.is("nobody tells anything", 0, Sentence.fears("0000").ask(0));
        DUE.is("each tells one from three", 0, Sentence.fears("9999").ask(0));
        HerringShares x = Sentence.fears("9999");
        x.tell(0, false);
        DUE.is("b, c, d are left: one from two", 1, x.ask(1));
        x.tell(3, true);
        DUE.is("d alone: whoever", 0, x.ask(2));
    }

    private static void askNobodyIsLeft() {
        DUE.about("36: -2: nobody is left");
        HerringShares x = Sentence.fears("99");
        x.tell(0, true);
        x.tell(0, false);
        DUE.is("one is left", 0, x.ask(1));
        DUE.is("nobody", -2, x.ask(2));
        DUE.is("without HOUSES", -2, new HerringShares().ask(0));
    }

    private static void askNoSuchK() {
        DUE.about("36: NONE: no such k");
        HerringShares x = Sentence.fears("11", "ba");
        x.tell(0, true);
        for (int k : new int[] {-1, -2, 2, 20, 21, LEAST, MOST}) {
            DUE.is("ask(" + k + ")", -1, x.ask(k));
        }
        DUE.is("without HOUSES", -1, new HerringShares().ask(1));
    }
}
