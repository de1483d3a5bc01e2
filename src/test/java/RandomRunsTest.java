import java.util.ArrayList;
import java.util.List;
import java.util.Random;

/** Runs of calls by fixed seeds, each answer held against the model's. */
public final class RandomRunsTest {
    private static final String[] CALLS = {"back", "house", "house", "tells", "buy", "buy", "eat", "salts", "salts",
        "proxy", "proxy", "days", "undo", "panic", "spark", "calm", "power", "strongest", "allies", "takeover",
        "motion", "sell", "salting", "dearest", "poorest", "quiet", "share", "priceIn", "then", "allIn", "deals",
        "ruin", "tell", "forget", "began", "ask", "hold", "restore", "count", "count", "feed", "read"};

    private final Random random;
    private final HerringShares x = new HerringShares();
    private final Model model = new Model();
    private final List<String> log = new ArrayList<>();
    private int used;
    private int wrong;

    private RandomRunsTest(long seed) {
        random = new Random(seed);
    }

    public static void main(String[] args) {
        int runs = args.length > 0 ? Integer.parseInt(args[0]) : 150;
        int first = args.length > 1 ? Integer.parseInt(args[1]) : 0;
        int wrong = 0;
        for (int i = first; i < first + runs; i++) {
            wrong += new RandomRunsTest(i).run(i);
        }
        System.out.println(runs + " runs, " + wrong + " answers not as the model's");
        if (wrong != 0) {
            System.exit(1);
        }
    }

    private int run(int number) {
        boolean faulty = number % 5 == 4;
        // an object is good for 512 calls, and a text takes up to 104 of them
        while (used < 400 && wrong == 0) {
            String text = new RandomTexts(random).text(faulty || random.nextInt(6) == 0);
            put(text);
            check("read of [" + text + "]", model.read(), x.read());
            check("place", model.place(), x.place());
            int more = faulty ? 3 : 40 + random.nextInt(150);
            for (int i = 0; i < more && used < 510 && wrong == 0; i++) {
                call(CALLS[random.nextInt(faulty ? CALLS.length : CALLS.length - 2)]);
            }
        }
        if (wrong != 0) {
            System.out.println("run " + number + ": " + String.join("\n    ", log));
        }
        return wrong;
    }

    private void check(String call, long want, long got) {
        used++;
        log.add(call + " -> " + got);
        if (want != got) {
            wrong++;
            log.add("due is " + want);
        }
    }

    private void put(String text) {
        int at = 0;
        int fed = model.count(8);
        check("back all", model.back(fed), x.back(fed));
        while (at < text.length()) {
            int[] w = new int[5];
            for (int i = 0; i < 20; i++) {
                int sign = at + i < text.length() ? text.charAt(at + i) : ' ';
                w[i / 4] = w[i / 4] << 8 | sign & 255;
            }
            check("feed", model.feed(w[0], w[1], w[2], w[3], w[4]), x.feed(w[0], w[1], w[2], w[3], w[4]));
            at += 20;
        }
        check("back", model.back(at - text.length()), x.back(at - text.length()));
    }

    private int pick(int most) {
        int sort = random.nextInt(40);
        return sort == 0 ? -1 : sort == 1 ? most + 1 : sort == 2 ? random.nextInt() : random.nextInt(most + 1);
    }

    private int house() {
        return pick(Math.max(0, model.count(0) - 1));
    }

    private void call(String name) {
        int h = house();
        int other = house();
        int n = random.nextInt(4) == 0 ? pick(99) : 1 + random.nextInt(9);
        int far = random.nextInt(3) == 0 ? pick(60) : random.nextInt(6);
        int near = random.nextInt(3) == 0 ? pick(24) : random.nextInt(6);
        int two = pick(1);
        int three = pick(2);
        switch (name) {
            case "back" -> check("back(" + n + ")", model.back(n), x.back(n));
            case "house" -> {
                int what = pick(9);
                check("house(" + h + ", " + what + ")", model.house(h, what), x.house(h, what));
            }
            case "tells" -> {
                int what = pick(3);
                check("tells(" + h + ", " + what + ")", model.tells(h, what), x.tells(h, what));
            }
            case "buy" -> check("buy(" + h + ", " + other + ", " + n + ")", model.buy(h, other, n), x.buy(h, other, n));
            case "eat" -> check("eat(" + h + ", " + n + ")", model.eat(h, n), x.eat(h, n));
            case "salts" -> check("salts(" + h + ", " + n + ")", model.salts(h, n), x.salts(h, n));
            case "proxy" -> {
                int to = random.nextInt(4) == 0 ? -1 : other;
                check("proxy(" + h + ", " + to + ")", model.proxy(h, to) ? 1 : 0, x.proxy(h, to) ? 1 : 0);
            }
            case "days" -> check("days(" + far + ")", model.days(far), x.days(far));
            case "undo" -> check("undo()", model.undo() ? 1 : 0, x.undo() ? 1 : 0);
            case "panic" -> check("panic(" + h + ")", model.panic(h), x.panic(h));
            case "spark" -> check("spark(" + two + ")", model.spark(two), x.spark(two));
            case "calm" -> {
                int i = random.nextInt(3) == 0 ? -1 : three;
                check("calm(" + h + ", " + other + ", " + i + ")", model.calm(h, other, i), x.calm(h, other, i));
            }
            case "power" -> check("power(" + h + ", " + (n > 4) + ")", model.power(h, n > 4), x.power(h, n > 4));
            case "strongest" -> check("strongest(" + two + ")", model.strongest(two), x.strongest(two));
            case "allies" -> check("allies(" + h + ")", model.allies(h), x.allies(h));
            case "takeover" -> check("takeover(" + h + ", " + two + ")", model.takeover(h, two), x.takeover(h, two));
            case "motion" -> {
                int m = pick(Math.max(0, model.count(2) - 1));
                check("motion(" + m + ", " + three + ")", model.motion(m, three), x.motion(m, three));
            }
            default -> callMore(name, h, far, near, two, three);
        }
    }

    private void callMore(String name, int h, int far, int near, int two, int three) {
        switch (name) {
            case "sell" -> check("sell(" + h + ", " + near + ", " + two + ")", model.sell(h, near, two),
                    x.sell(h, near, two));
            case "salting" -> check("salting(" + h + ", " + near + ")", model.salting(h, near), x.salting(h, near));
            case "dearest" -> check("dearest(" + near + ", " + two + ")", model.dearest(near, two),
                    x.dearest(near, two));
            case "poorest" -> check("poorest(" + far + ", " + two + ")", model.poorest(far, two), x.poorest(far, two));
            case "quiet" -> check("quiet(" + h + ")", model.quiet(h), x.quiet(h));
            case "share" -> check("share(" + h + ")", model.share(h), x.share(h));
            case "priceIn" -> check("priceIn(" + far + ")", model.priceIn(far), x.priceIn(far));
            case "then" -> check("then(" + h + ", " + far + ", " + three + ")", model.then(h, far, three),
                    x.then(h, far, three));
            case "allIn" -> check("allIn(" + far + ")", model.allIn(far), x.allIn(far));
            case "deals" -> check("deals(" + two + ")", model.deals(two), x.deals(two));
            case "ruin" -> {
                int s = random.nextInt(5) == 0 ? pick(20) : 1 + random.nextInt(20);
                check("ruin(" + h + ", " + far + ", " + s + ")", model.ruin(h, far, s), x.ruin(h, far, s));
            }
            case "tell" -> {
                boolean ate = random.nextBoolean();
                check("tell(" + h + ", " + ate + ")", model.tell(h, ate), x.tell(h, ate));
            }
            case "forget" -> {
                if (random.nextInt(4) == 0) {
                    check("forget()", model.forget(), x.forget());
                }
            }
            case "began" -> {
                int k = pick(model.count(10));
                check("began(" + k + ", " + two + ")", model.began(k, two), x.began(k, two));
            }
            case "ask" -> {
                int k = pick(model.count(10));
                check("ask(" + k + ")", model.ask(k), x.ask(k));
            }
            case "hold" -> check("hold(" + three + ")", model.hold(three) ? 1 : 0, x.hold(three) ? 1 : 0);
            case "restore" -> {
                if (random.nextInt(3) == 0) {
                    check("restore(" + three + ")", model.restore(three) ? 1 : 0, x.restore(three) ? 1 : 0);
                }
            }
            case "count" -> {
                int what = pick(14);
                check("count(" + what + ")", model.count(what), x.count(what));
            }
            case "feed" -> {
                int a = random.nextInt();
                check("feed(" + a + ", ..)", model.feed(a, a, a, a, a), x.feed(a, a, a, a, a));
            }
            default -> {
                check("read()", model.read(), x.read());
                check("place()", model.place(), x.place());
            }
        }
    }
}
