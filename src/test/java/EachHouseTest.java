import java.util.ArrayList;
import java.util.List;

/**
 * A town of seven is told seven times, begun with another house each time: whatever number a house has, the same is
 * answered of it. So no call answers of another house than the one it is asked of, and none leaves a house out.
 */
public final class EachHouseTest {
    private static final Due DUE = new Due();
    private static final int SIZE = 7;
    private static final String[] HOUSES = {"a 61 150 3 1", "b 31 900 5 2", "c 47 4 1 1", "d 12 330 9 3", "e 85 610 4 0",
        "f 26 480 7 2", "g 73 240 2 1"};
    private static final String[] HEARD = {"ab", "ba", "bc", "cd", "da", "db", "df", "fa", "fg", "gc"};
    private static final String[] MOTIONS = {"abc", "", "ge", "dbf", "abcdefg"};
    private static final String LAWS = "price=3+all/100+ate/40;eats=1+hunger/4+coins/400+fear/2;rots=fish/9+salted/7-ate/11;"
            + "glut=fish/3+all/50;votes=fish*2+coins/10+all/9+salted+ate;odds 50;seed 5;salt 99;";

    private static final int PHASES = 5;

    /** The number of the house that is told first; the others follow round. */
    private final int first;
    private final HerringShares x;
    private final List<String> calls = new ArrayList<>();
    private final List<Integer> answers = new ArrayList<>();

    private EachHouseTest(int first) {
        this.first = first;
        StringBuilder text = new StringBuilder();
        for (int i = 0; i < SIZE; i++) {
            text.append("house ").append(HOUSES[(first + i) % SIZE]).append(';');
        }
        for (String pair : HEARD) {
            text.append("hears ").append(pair.charAt(0)).append(' ').append(pair.charAt(1)).append(';');
        }
        for (int i = 0; i < MOTIONS.length; i++) {
            text.append("motion m").append((char) ('a' + i)).append(MOTIONS[i].replaceAll("(.)", " $1")).append(';');
        }
        x = Due.town(text.append(LAWS).toString());
    }

    public static void main(String[] args) {
        numbersOfTheirOwn();
        for (int phase = 0; phase < PHASES; phase++) {
            EachHouseTest asTold = new EachHouseTest(0);
            asTold.goThrough(phase);
            for (int first = 1; first < SIZE; first++) {
                EachHouseTest round = new EachHouseTest(first);
                round.goThrough(phase);
                DUE.about("phase " + phase + ", told from house " + first + " on");
                round.compare(asTold);
            }
        }
        DUE.end();
    }

    private void compare(EachHouseTest asTold) {
        DUE.is("as many answers", asTold.answers.size(), answers.size());
        for (int i = 0; i < asTold.answers.size() && i < answers.size(); i++) {
            DUE.is(asTold.calls.get(i), asTold.answers.get(i), answers.get(i));
        }
    }

    private static void numbersOfTheirOwn() {
        DUE.about("which: its number");
        HerringShares x = Due.town(Sentence.houses("1 1 1", 9, 9, 9, 9, 9, 9, 9)
                + "eats=which;glut=which*3;votes=which+40;rots=7-which;");
        for (int house = 0; house < SIZE; house++) {
            DUE.is("EATS of " + house, house, x.tells(house, 1));
            DUE.is("ROTS of " + house, 7 - house, x.tells(house, 2));
            DUE.is("GLUT of " + house, house * 3, x.tells(house, 3));
            DUE.is("VOTES of " + house, house + 40, x.house(house, 7));
            DUE.is("FISH of " + house + " then", 9 - house - Math.min(9 - house, 7 - house), x.then(house, 1, 0));
        }
    }

    /** The number, in this town, of a house of the town as it is told from the first one on. */
    private int at(int house) {
        return (house - first + SIZE) % SIZE;
    }

    private int houseAt(int number) {
        return number < 0 ? number : (number + first) % SIZE;
    }

    private int bitsAt(int bits) {
        int turned = 0;
        for (int i = 0; i < SIZE; i++) {
            turned |= (bits >> i & 1) << houseAt(i);
        }
        return turned;
    }

    private void note(String call, int answer) {
        calls.add(call);
        answers.add(answer);
    }

    /** An object is good for 512 calls, so each phase has one of its own. */
    private void goThrough(int phase) {
        if (phase > 0) {
            doByHand();
        }
        if (phase > 1) {
            note("hold", x.hold(1) ? 1 : 0);
            note("days", x.days(3));
        }
        if (phase == 3) {
            note("undo", x.undo() ? 1 : 0);
        }
        if (phase == 4) {
            note("restore", x.restore(1) ? 1 : 0);
        }
        askHouses();
        askOfEach();
        askOfTown();
        note("told", x.tell(at(3), true));
        note("told", x.tell(at(0), false));
        note("began", bitsAt(x.began(2, 1)));
    }

    private void doByHand() {
        for (int house = 0; house < SIZE; house++) {
            note("salts " + house, x.salts(at(house), 2 * house + 1));
            note("eat " + house, x.eat(at(house), house + 2));
            note("buy " + house, x.buy(at(house), at((house + 3) % SIZE), 2 + house % 3));
        }
        note("a gives", x.proxy(at(0), at(4)) ? 1 : 0);
        note("f gives", x.proxy(at(5), at(6)) ? 1 : 0);
        note("b gives", x.proxy(at(1), at(6)) ? 1 : 0);
    }

    private void askHouses() {
        for (int house = 0; house < SIZE; house++) {
            String who = house + ": ";
            for (int what = 0; what < 9; what++) {
                int answer = x.house(at(house), what);
                note(who + what, what == 6 ? houseAt(answer) : answer);
            }
            note(who + "hears", bitsAt(x.house(at(house), 9)));
            for (int what = 0; what < 4; what++) {
                note(who + "tells " + what, x.tells(at(house), what));
            }
        }
    }

    private void askOfEach() {
        for (int house = 0; house < SIZE; house++) {
            String who = house + ": ";
            int h = at(house);
            for (int other = 0; other < SIZE; other++) {
                note(who + "calm " + other, x.calm(h, at(other), -1));
            }
            note(who + "panic", bitsAt(x.panic(h)));
            note(who + "quiet", bitsAt(x.quiet(h)));
            note(who + "power", x.power(h, false));
            note(who + "power below", x.power(h, true));
            note(who + "allies", x.allies(h));
            note(who + "share", x.share(h));
            note(who + "ruin", x.ruin(h, 7, 9));
            note(who + "salting", x.salting(h, 2));
            for (int what = 0; what < 2; what++) {
                note(who + "takeover " + what, x.takeover(h, what));
                note(who + "sell " + what, x.sell(h, 5, what));
            }
            for (int what = 0; what < 3; what++) {
                note(who + "then " + what, x.then(h, 4, what));
            }
        }
    }

    private void askOfTown() {
        for (int what = 0; what < 15; what++) {
            note("count " + what, x.count(what));
        }
        for (int motion = 0; motion < MOTIONS.length; motion++) {
            for (int what = 0; what < 3; what++) {
                note("motion " + motion + " " + what, x.motion(motion, what));
            }
        }
        note("strongest", houseAt(x.strongest(0)));
        note("its turns", x.strongest(1));
        note("spark", x.spark(1));
        note("poorest", houseAt(x.poorest(1, 0)));
        note("its fish", x.poorest(1, 1));
        note("dearest", x.dearest(6, 0));
        note("its price", x.dearest(6, 1));
        note("price", x.priceIn(5));
        note("all", x.allIn(5));
        note("deals", x.deals(0));
    }
}
