/** VOTES, POWER, TAKEOVER and MOTIONS, promises 17 to 21: a method for each sentence that bounds something. */
public final class SentencesOfVotesTest {
    private static final Due DUE = new Due();
    private static final int LEAST = Sentence.LEAST;
    private static final int MOST = Sentence.MOST;
    private static final int[] NO_WHATS = {-1, -2, 3, 4, LEAST, MOST};

    public static void main(String[] args) {
        nothingHappens();
        votesGivenInProxy();
        powerLessThanHalf();
        powerJustHalf();
        powerOfOneAlone();
        powerCannotBeLessened();
        power0By1();
        powerOfAllSets();
        powerNoSuchHouse();
        strongestMostTurns();
        strongestTheFirstOfAlike();
        strongestNoHouses();
        strongestNoneForOthers();
        alliesMoreThanHalf();
        alliesNoneNeeded();
        alliesNotWithAll();
        alliesOfWhoGaveHis();
        alliesNoSuchHouse();
        takeoverMoreThanHalf();
        takeoverNothing();
        takeoverCoinsDoNot();
        takeoverNoFish();
        takeoverFromHowMany();
        takeoverNoSuchOnes();
        motionMoreThanTheOthers();
        motionFewest();
        motionCarried();
        motionNotByAll();
        motionNoSuchOnes();
        DUE.end();
    }

    private static HerringShares fish(int... fish) {
        return Due.town(Sentence.houses("999 1 1", fish));
    }

    private static void power(HerringShares x, int house, int upper, int lower) {
        DUE.is("power(" + house + ", false)", upper, x.power(house, false));
        DUE.is("power(" + house + ", true)", lower, x.power(house, true));
    }

    private static void nothingHappens() {
        DUE.about("III: What would be (nothing happens)");
        HerringShares x = Due.town(Sentence.houses("999 1 1", 5, 6, 7) + "motion m a;");
        x.proxy(0, 1);
        String was = Sentence.all(x);
        x.power(0, true);
        x.strongest(0);
        x.allies(0);
        x.takeover(0, 0);
        x.takeover(0, 1);
        x.motion(0, 2);
        DUE.is("all is as it was", true, Sentence.same(was, x));
    }

    private static void votesGivenInProxy() {
        DUE.about("VOTES that a HOUSE has: none, if it gave them in PROXY, else its own and those given to it");
        HerringShares x = fish(1, 2, 4, 8);
        x.proxy(0, 3);
        x.proxy(2, 3);
        int[] has = {0, 2, 0, 13};
        for (int h = 0; h < 4; h++) {
            DUE.is("VOTES that " + h + " has", has[h], x.house(h, 8));
            DUE.is("VOTES of its own", 1 << h, x.house(h, 7));
        }
        DUE.is("VOTES of all", 15, x.count(12));
        HerringShares most = Due.town(Sentence.houses("1 1 1", 1, 1, 1, 1, 1, 1, 1) + "votes=9999;");
        for (int h = 1; h < 7; h++) {
            most.proxy(h, 0);
        }
        DUE.is("held to 999 each, not together", 6993, most.house(0, 8));
    }

    private static void powerLessThanHalf() {
        DUE.about("POWER: turn less than half .. of all VOTES into more");
        // of 9 VOTES: a turns {}, {b}, {c}; b turns {a}, {c}; c turns {a}, {b}: not more than half alone
        HerringShares x = fish(4, 3, 2);
        for (int h = 0; h < 3; h++) {
            power(x, h, 1, 3);
        }
        // of 9: a has more than half alone
        x = fish(5, 3, 1);
        power(x, 0, 1, 1);
        power(x, 1, 0, 1);
        power(x, 2, 0, 1);
    }

    private static void powerJustHalf() {
        DUE.about("POWER: or just half, of all VOTES into more");
        // of 10: a has just half; with anybody it has more
        HerringShares x = fish(5, 3, 2);
        power(x, 0, 3, 5);
        power(x, 1, 1, 5);
        power(x, 2, 1, 5);
        power(fish(2, 2), 0, 1, 2);
        // a set of just half is turned by one VOTE
        x = fish(3, 2, 1);
        power(x, 2, 1, 5);
        DUE.is("turns", 3, x.strongest(1));
    }

    private static void powerOfOneAlone() {
        DUE.about("POWER: of all sets of other HOUSES, the empty one, too");
        power(fish(1), 0, 1, 1);
        DUE.is("turns", 1, fish(1).strongest(1));
        DUE.is("turns of all sets of six others", 64, fish(99, 1, 1, 1, 1, 1, 1).strongest(1));
    }

    private static void powerCannotBeLessened() {
        DUE.about("POWER: as a fraction that cannot be lessened");
        HerringShares x = fish(1, 1, 1, 1, 1, 1, 1);
        for (int h = 0; h < 7; h++) {
            power(x, h, 1, 7);
        }
        // turns 7, 1, 1, 1
        x = fish(3, 1, 1, 1);
        power(x, 0, 7, 10);
        power(x, 1, 1, 10);
        x = fish(2, 1, 1, 1);
        power(x, 0, 1, 2);
        power(x, 3, 1, 6);
    }

    private static void power0By1() {
        DUE.about("POWER: (0 by 1, if there are none)");
        HerringShares x = fish(0, 0, 0);
        for (int h = 0; h < 3; h++) {
            power(x, h, 0, 1);
        }
        power(fish(0), 0, 0, 1);
        power(Due.town("house a 9 9 9 9;votes=0-1;"), 0, 0, 1);
        // it has none, others do
        power(fish(0, 5), 0, 0, 1);
        power(fish(0, 5), 1, 1, 1);
    }

    private static void powerOfAllSets() {
        DUE.about("POWER: the VOTES that it has");
        HerringShares x = fish(5, 4, 2);
        x.proxy(2, 0);
        power(x, 0, 1, 1);
        DUE.is("turns: sets with c count, too", 4, x.strongest(1));
        power(x, 2, 0, 1);
        x.proxy(2, 1);
        power(x, 0, 0, 1);
        power(x, 1, 1, 1);
        HerringShares most = Due.town(Sentence.houses("1 1 1", 1, 1, 1, 1, 1, 1, 1) + "votes=999;");
        power(most, 3, 1, 7);
    }

    private static void powerNoSuchHouse() {
        DUE.about("17: NONE: no such HOUSE");
        HerringShares x = fish(1, 2);
        DUE.is("power(2, true)", -1, x.power(2, true));
        for (int h : Sentence.NO_HOUSES) {
            DUE.is("power(" + h + ", true)", -1, x.power(h, true));
            DUE.is("power(" + h + ", false)", -1, x.power(h, false));
        }
        DUE.is("without HOUSES", -1, new HerringShares().power(0, true));
    }

    private static void strongestMostTurns() {
        DUE.about("STRONGEST: the HOUSE with most such turns; how many");
        HerringShares x = fish(1, 2, 3);
        DUE.is("which", 2, x.strongest(0));
        DUE.is("turns", 3, x.strongest(1));
        DUE.is("by PROXY", 0, proxied().strongest(0));
    }

    private static HerringShares proxied() {
        HerringShares x = fish(2, 2, 3);
        x.proxy(1, 0);
        return x;
    }

    private static void strongestTheFirstOfAlike() {
        DUE.about("STRONGEST: of alike ones the first");
        DUE.is("all alike, though of other VOTES", 0, fish(2, 3, 4).strongest(0));
        DUE.is("b and c", 1, fish(0, 5, 5).strongest(0));
        DUE.is("nobody has VOTES", 0, fish(0, 0).strongest(0));
        DUE.is("nobody has VOTES", 0, fish(0, 0).strongest(1));
    }

    private static void strongestNoHouses() {
        DUE.about("18: -2: there are no HOUSES");
        DUE.is("strongest(0)", -2, new HerringShares().strongest(0));
        DUE.is("strongest(1)", -2, new HerringShares().strongest(1));
    }

    private static void strongestNoneForOthers() {
        DUE.about("18: NONE for others");
        DUE.is("strongest(2)", -1, fish(1, 2).strongest(2));
        for (int what : NO_WHATS) {
            DUE.is("strongest(" + what + ")", -1, fish(1, 2).strongest(what));
            DUE.is("strongest(" + what + ") without HOUSES", -1, new HerringShares().strongest(what));
        }
    }

    private static void alliesMoreThanHalf() {
        DUE.about("ALLIES: the fewest others with which its VOTES are more than half");
        DUE.is("just half is not", 1, fish(5, 3, 2).allies(0));
        DUE.is("3 and 5 of 10", 1, fish(5, 3, 2).allies(1));
        DUE.is("1 and 4 of 10 is not", 2, fish(1, 4, 3, 2).allies(0));
        DUE.is("three of six", 3, fish(1, 1, 1, 1, 1, 1, 1).allies(3));
        DUE.is("four of six", 4, fish(0, 1, 1, 1, 1, 1, 1).allies(0));
        DUE.is("the most first", 1, fish(1, 1, 2, 9, 3).allies(0));
    }

    private static void alliesNoneNeeded() {
        DUE.about("19: (0: none needed)");
        DUE.is("6 of 11", 0, fish(6, 3, 2).allies(0));
        DUE.is("alone", 0, fish(1).allies(0));
    }

    private static void alliesNotWithAll() {
        DUE.about("19: -2: not with all");
        DUE.is("nobody has VOTES", -2, fish(0, 0, 0).allies(1));
        DUE.is("one HOUSE without VOTES", -2, fish(0).allies(0));
        DUE.is("one VOTE is enough", 1, fish(0, 0, 1).allies(0));
    }

    private static void alliesOfWhoGaveHis() {
        DUE.about("ALLIES: the VOTES that it has");
        HerringShares x = fish(9, 4, 2);
        x.proxy(0, 2);
        DUE.is("who gave his needs one", 1, x.allies(0));
        DUE.is("who has them needs none", 0, x.allies(2));
        DUE.is("the third one", 1, x.allies(1));
    }

    private static void alliesNoSuchHouse() {
        DUE.about("19: NONE: no such HOUSE");
        DUE.is("allies(2)", -1, fish(1, 2).allies(2));
        for (int h : Sentence.NO_HOUSES) {
            DUE.is("allies(" + h + ")", -1, fish(1, 2).allies(h));
        }
        DUE.is("without HOUSES", -1, new HerringShares().allies(0));
    }

    private static void takeoverMoreThanHalf() {
        DUE.about("TAKEOVER: the least that it must pay for FISH, at the PRICE, so that it has more than half of all FISH");
        DUE.is("of 10, one more than 5", 10, fish(5, 3, 2).takeover(0, 0));
        DUE.is("of 11, one more than 5", 10, fish(5, 4, 2).takeover(0, 0));
        DUE.is("of 11, 6 for who has none", 60, fish(5, 6, 0).takeover(2, 0));
        HerringShares x = Due.town(Sentence.houses("999 1 1", 5, 3, 2) + "price=99;");
        DUE.is("99 each", 99 * 4, x.takeover(2, 0));
        x.salts(0, 5);
        DUE.is("salted ones, too", 99 * 4, x.takeover(2, 0));
    }

    private static void takeoverNothing() {
        DUE.about("TAKEOVER: it has more than half already");
        DUE.is("how much", 0, Due.town(Sentence.houses("0 1 1", 6, 3, 2)).takeover(0, 0));
        DUE.is("from how many", 0, Due.town(Sentence.houses("0 1 1", 6, 3, 2)).takeover(0, 1));
        DUE.is("far more than half", 0, Due.town(Sentence.houses("0 1 1", 99, 0, 2)).takeover(0, 0));
        DUE.is("far more than half", 0, Due.town(Sentence.houses("0 1 1", 99, 0, 2)).takeover(0, 1));
        DUE.is("one HOUSE, one FISH", 0, Due.town(Sentence.houses("0 1 1", 1)).takeover(0, 0));
    }

    private static void takeoverCoinsDoNot() {
        DUE.about("20: -2: COINS do not");
        for (int what = 0; what < 2; what++) {
            DUE.is("39 of 40", -2, Due.town(Sentence.houses("39 1 1", 5, 3, 2)).takeover(2, what));
            DUE.is("40 of 40", what == 0 ? 40 : 1, Due.town(Sentence.houses("40 1 1", 5, 3, 2)).takeover(2, what));
            DUE.is("none of 10", -2, Due.town(Sentence.houses("0 1 1", 5, 3, 2)).takeover(0, what));
        }
    }

    private static void takeoverNoFish() {
        DUE.about("20: -2: there are no FISH");
        for (int what = 0; what < 2; what++) {
            DUE.is("two HOUSES", -2, fish(0, 0).takeover(1, what));
            DUE.is("one HOUSE", -2, fish(0).takeover(0, what));
            HerringShares x = fish(1, 0);
            x.eat(0, 1);
            DUE.is("all were eaten", -2, x.takeover(0, what));
        }
    }

    private static void takeoverFromHowMany() {
        DUE.about("TAKEOVER: from how many HOUSES at least");
        DUE.is("6 from one of 6", 1, fish(0, 6, 5).takeover(0, 1));
        DUE.is("6 from two of 5", 2, fish(0, 5, 5).takeover(0, 1));
        DUE.is("4 from four of 1", 4, fish(0, 1, 1, 1, 1, 1, 1).takeover(0, 1));
        DUE.is("the most first", 1, fish(2, 1, 1, 1, 5).takeover(0, 1));
    }

    private static void takeoverNoSuchOnes() {
        DUE.about("20: NONE: no such ones");
        HerringShares x = fish(1, 2);
        DUE.is("takeover(2, 0)", -1, x.takeover(2, 0));
        DUE.is("takeover(0, 2)", -1, x.takeover(0, 2));
        for (int h : Sentence.NO_HOUSES) {
            DUE.is("takeover(" + h + ", 0)", -1, x.takeover(h, 0));
            DUE.is("takeover(" + h + ", 1)", -1, x.takeover(h, 1));
        }
        for (int what : NO_WHATS) {
            DUE.is("takeover(0, " + what + ")", -1, x.takeover(0, what));
            DUE.is("takeover(0, " + what + ") without FISH", -1, fish(0, 0).takeover(0, what));
        }
        DUE.is("without HOUSES", -1, new HerringShares().takeover(0, 0));
    }

    private static HerringShares motions() {
        return Due.town(Sentence.houses("1 1 1", 5, 3, 2) + "motion half a;motion more b c a;motion less b;motion no;"
                + "motion most a c;");
    }

    private static void motionMoreThanTheOthers() {
        DUE.about("MOTIONS: whether the VOTES that HOUSES for it have are more than the others'; VOTES for it");
        HerringShares x = motions();
        int[] carried = {0, 1, 0, 0, 1};
        int[] votes = {5, 10, 3, 0, 7};
        for (int m = 0; m < 5; m++) {
            DUE.is("motion(" + m + ", 0)", carried[m], x.motion(m, 0));
            DUE.is("motion(" + m + ", 1)", votes[m], x.motion(m, 1));
        }
        x.proxy(2, 0);
        DUE.is("with a PROXY of c", 7, x.motion(0, 1));
        DUE.is("carried", 1, x.motion(0, 0));
        x.proxy(2, 1);
        DUE.is("c, who gave his, has none for it", 5, x.motion(4, 1));
    }

    private static void motionFewest() {
        DUE.about("MOTIONS: the fewest HOUSES against it that, were they for it, carry it");
        HerringShares x = motions();
        int[] fewest = {1, 0, 1, 2, 0};
        for (int m = 0; m < 5; m++) {
            DUE.is("motion(" + m + ", 2)", fewest[m], x.motion(m, 2));
        }
        DUE.is("four of seven", 4, Due.town(Sentence.houses("1 1 1", 1, 1, 1, 1, 1, 1, 1) + "motion m;").motion(0, 2));
        DUE.is("just half is not enough", 2, Due.town(Sentence.houses("1 1 1", 2, 1, 1) + "motion m;").motion(0, 2));
    }

    private static void motionCarried() {
        DUE.about("21: 2 the fewest HOUSES (0: carried)");
        HerringShares x = Due.town("house a 1 1 1 1;motion m a;");
        DUE.is("motion(0, 0)", 1, x.motion(0, 0));
        DUE.is("motion(0, 2)", 0, x.motion(0, 2));
    }

    private static void motionNotByAll() {
        DUE.about("21: -2: not by all");
        HerringShares x = Due.town(Sentence.houses("1 1 1", 0, 0) + "motion m a b;motion n;");
        for (int m = 0; m < 2; m++) {
            DUE.is("motion(" + m + ", 0)", 0, x.motion(m, 0));
            DUE.is("motion(" + m + ", 2)", -2, x.motion(m, 2));
        }
        DUE.is("without HOUSES", -2, Due.town("motion m;").motion(0, 2));
        DUE.is("without HOUSES", 0, Due.town("motion m;").motion(0, 0));
        DUE.is("without HOUSES", 0, Due.town("motion m;").motion(0, 1));
    }

    private static void motionNoSuchOnes() {
        DUE.about("21: NONE: no such ones");
        HerringShares x = Due.town(Sentence.houses("1 1 1", 1, 1) + "motion m a b;motion n;");
        for (int m : new int[] {-1, -2, 2, 5, 6, LEAST, MOST}) {
            for (int what = 0; what < 3; what++) {
                DUE.is("motion(" + m + ", " + what + ")", -1, x.motion(m, what));
            }
        }
        for (int what : NO_WHATS) {
            DUE.is("motion(0, " + what + ")", -1, x.motion(0, what));
        }
        DUE.is("the fifth one", 0, motions().motion(4, 2));
        DUE.is("no sixth one", -1, motions().motion(5, 2));
        DUE.is("without any", -1, new HerringShares().motion(0, 0));
    }
}
