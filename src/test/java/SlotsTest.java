/** Promises 37 to 39: hold, restore, count. */
public final class SlotsTest {
    private static final Due DUE = new Due();

    public static void main(String[] args) {
        holds();
        whatIsNotHeld();
        slotsOfAText();
        noSuchSlots();
        counts();
        DUE.end();
    }

    private static HerringShares town() {
        return Due.town("house a 20 50 3 1; house b 10 200 5 1; hears b a; eats = 1; salt 9; odds 100; motion m a;");
    }

    private static void holds() {
        DUE.about("promises 37, 38");
        HerringShares x = town();
        x.days(2);
        x.buy(1, 0, 3);
        x.salts(1, 4);
        x.proxy(0, 1);
        DUE.is("hold(0)", true, x.hold(0));
        DUE.is("still can be undone", 4, x.count(9));
        DUE.is("count(11)", 1, x.count(11));
        x.days(5);
        x.proxy(0, -1);
        x.eat(0, 9);
        DUE.is("hold(2)", true, x.hold(2));
        DUE.is("count(11)", 2, x.count(11));
        DUE.is("restore(0)", true, x.restore(0));
        int[] a = {25, 80, 3, 1, 0, 2, 1, 25, 0, 0};
        int[] b = {21, 170, 5, 1, 4, 2, -2, 21, 46, 1};
        for (int what = 0; what < 10; what++) {
            DUE.is("house(0, " + what + ")", a[what], x.house(0, what));
            DUE.is("house(1, " + what + ")", b[what], x.house(1, what));
        }
        DUE.is("the day", 2, x.count(3));
        DUE.is("SALT", 5, x.count(7));
        DUE.is("nothing can be undone", 0, x.count(9));
        DUE.is("undo", false, x.undo());
        x.eat(0, 1);
        DUE.is("what is done then can be", true, x.undo());
        DUE.is("restore(2)", true, x.restore(2));
        DUE.is("the day", 7, x.count(3));
        DUE.is("it stays there", true, x.restore(0));
        DUE.is("the day", 2, x.count(3));
        DUE.is("held over another", true, x.hold(2));
        x.restore(2);
        DUE.is("the day", 2, x.count(3));
        DUE.is("count(11)", 2, x.count(11));
    }

    private static void whatIsNotHeld() {
        DUE.about("promise 37, neither TOLD ones nor the tape");
        HerringShares x = town();
        x.tell(0, true);
        x.feed(1, 1, 1, 1, 1);
        x.hold(1);
        x.tell(1, true);
        x.back(3);
        x.restore(1);
        DUE.is("TOLD", 2, x.count(10));
        DUE.is("the tape", 17, x.count(8));
        x.forget();
        x.restore(1);
        DUE.is("TOLD", 0, x.count(10));
    }

    private static void slotsOfAText() {
        DUE.about("a text in place of the one ahead");
        HerringShares x = town();
        x.hold(0);
        x.hold(1);
        x.feed(-1, -1, -1, -1, -1);
        DUE.is("a FAULT", 1, x.read());
        DUE.is("count(11)", 2, x.count(11));
        DUE.is("a text", 0, x.read());
        DUE.is("count(11)", 0, x.count(11));
        DUE.is("restore(0)", false, x.restore(0));
        DUE.is("hold(0) without HOUSES", true, x.hold(0));
        x.days(3);
        DUE.is("restore(0)", true, x.restore(0));
        DUE.is("the day", 0, x.count(3));
    }

    private static void noSuchSlots() {
        DUE.about("no such SLOTS");
        HerringShares x = town();
        x.days(1);
        for (int slot : new int[] {-1, 3, Integer.MIN_VALUE, Integer.MAX_VALUE}) {
            DUE.is("hold(" + slot + ")", false, x.hold(slot));
            DUE.is("restore(" + slot + ")", false, x.restore(slot));
        }
        for (int slot = 0; slot < 3; slot++) {
            DUE.is("nothing is held", false, x.restore(slot));
        }
        DUE.is("can be undone", 1, x.count(9));
        DUE.is("count(11)", 0, x.count(11));
    }

    private static void counts() {
        DUE.about("promise 39");
        HerringShares x = Due.town("house a 20 50 3 1; house b 10 200 5 1; house c 5 7 0 0; hears b a; hears a b;"
                + "motion m a; motion n; motion o; salt 9; odds 23; votes = which * 10 + 1; eats = 1;");
        x.salts(0, 4);
        x.salts(1, 3);
        x.proxy(0, 1);
        x.feed(0, 0, 0, 0, 0);
        x.tell(0, true);
        x.tell(0, true);
        x.hold(1);
        // the LOT of day 0 by SEED 0 is 22
        int[] want = {3, 2, 3, 0, 35, 257, 0, 2, 20, 3, 2, 1, 33, 1, 7};
        for (int what = 0; what < want.length; what++) {
            DUE.is("count(" + what + ")", want[what], x.count(what));
        }
        x.days(2);
        int[] later = {3, 2, 3, 2, 44, 257, 6, 2, 20, 4, 2, 1, 33, 0, 7};
        for (int what = 0; what < later.length; what++) {
            DUE.is("count(" + what + ") later", later[what], x.count(what));
        }
        for (int what : new int[] {-1, 15, -2, Integer.MIN_VALUE, Integer.MAX_VALUE}) {
            DUE.is("count(" + what + ")", -1, x.count(what));
        }
    }
}
