import java.util.ArrayDeque;
import java.util.ArrayList;
import java.util.Deque;
import java.util.HashMap;
import java.util.HashSet;
import java.util.List;
import java.util.Map;
import java.util.Set;

/** The document a second time, as plainly as can be: sets, copies, and all ways tried. */
final class Model {
    static final int NONE = -1;

    /** How all stands; copied whole whenever something changes. */
    static final class Now implements Cloneable {
        int day;
        int salt;
        int[] fish;
        int[] coins;
        int[] salted;
        int[] ate;
        int[] proxy;

        Now copy() {
            Now c = new Now();
            c.day = day;
            c.salt = salt;
            c.fish = fish.clone();
            c.coins = coins.clone();
            c.salted = salted.clone();
            c.ate = ate.clone();
            c.proxy = proxy.clone();
            return c;
        }

        void eats(int h, int n) {
            for (int i = 0; i < n; i++) {
                if (fish[h] == salted[h]) {
                    salted[h]--;
                }
                fish[h]--;
                ate[h]++;
            }
        }
    }

    private final StringBuilder tape = new StringBuilder();
    private int place = NONE;
    private ModelText text = new ModelText("");
    private Now now = fresh(text);
    private Deque<Now> past = new ArrayDeque<>();
    private Now[] slots = new Now[3];
    private List<int[]> told = new ArrayList<>();

    private static Now fresh(ModelText text) {
        Now n = new Now();
        int size = text.houses.size();
        n.salt = text.salt;
        n.fish = new int[size];
        n.coins = new int[size];
        n.salted = new int[size];
        n.ate = new int[size];
        n.proxy = new int[size];
        for (int i = 0; i < size; i++) {
            n.fish[i] = text.houses.get(i)[0];
            n.coins[i] = text.houses.get(i)[1];
            n.proxy[i] = -2;
        }
        return n;
    }

    private int size() {
        return text.houses.size();
    }

    private boolean no(int h) {
        return h < 0 || h >= size();
    }

    private static boolean out(int n, int least, int most) {
        return n < least || n > most;
    }

    private int hunger(int h) {
        return text.houses.get(h)[2];
    }

    private int fear(int h) {
        return text.houses.get(h)[3];
    }

    private static int sum(int[] row) {
        int s = 0;
        for (int x : row) {
            s += x;
        }
        return s;
    }

    private static int bits(Set<Integer> set) {
        int b = 0;
        for (int x : set) {
            b |= 1 << x;
        }
        return b;
    }

    private int law(String law, Now n, int h, int least, int most) {
        Map<String, Integer> vars = new HashMap<>();
        vars.put("all", sum(n.fish));
        vars.put("day", n.day);
        if (law.equals("price")) {
            vars.put("ate", sum(n.ate));
        } else {
            vars.put("fish", n.fish[h]);
            vars.put("which", h);
            if (!law.equals("glut")) {
                vars.put("hunger", hunger(h));
                vars.put("coins", n.coins[h]);
                vars.put("fear", fear(h));
                vars.put("salted", n.salted[h]);
                vars.put("ate", n.ate[h]);
            }
        }
        int v = new ModelText.Walk(text.laws.get(law), vars).value();
        return v < least ? least : v > most ? most : v;
    }

    private int price(Now n) {
        return law("price", n, 0, 1, 99);
    }

    private int lot(int n, int seed, int which) {
        int h = seed;
        for (int it : new int[] {115, which}) {
            h = (h ^ it) * 1103515245 + 12345;
            h = h ^ (h >>> 15);
        }
        return (h >>> 1) % n;
    }

    private boolean glut(Now n, int seed) {
        return lot(100, seed, 4 * n.day) < text.odds;
    }

    private Now dayAfter(Now n, int seed) {
        Now eaten = n.copy();
        for (int h = 0; h < size(); h++) {
            eaten.eats(h, law("eats", n, h, 0, n.fish[h]));
        }
        Now next = eaten.copy();
        for (int h = 0; h < size(); h++) {
            next.fish[h] -= law("rots", eaten, h, 0, eaten.fish[h] - eaten.salted[h]);
            if (glut(n, seed)) {
                next.fish[h] = Math.min(9999, next.fish[h] + law("glut", n, h, 0, 99));
            }
        }
        next.day++;
        return next;
    }

    private Now after(Now n, int days, int seed) {
        Now next = n;
        for (int i = 0; i < days; i++) {
            next = dayAfter(next, seed);
        }
        return next;
    }

    int feed(int a, int b, int c, int d, int e) {
        if (tape.length() > 1980) {
            return NONE;
        }
        for (int word : new int[] {a, b, c, d, e}) {
            for (int i = 3; i >= 0; i--) {
                tape.append((char) (word >> 8 * i & 255));
            }
        }
        return tape.length();
    }

    int back(int n) {
        if (out(n, 0, tape.length())) {
            return NONE;
        }
        tape.setLength(tape.length() - n);
        return tape.length();
    }

    int read() {
        ModelText next = new ModelText(tape.toString());
        tape.setLength(0);
        place = next.place;
        if (next.fault == 0) {
            text = next;
            now = fresh(text);
            past = new ArrayDeque<>();
            slots = new Now[3];
            told = new ArrayList<>();
        }
        return next.fault;
    }

    int place() {
        return place;
    }

    private int[] votes() {
        int[] has = new int[size()];
        for (int h = 0; h < size(); h++) {
            has[now.proxy[h] == -2 ? h : now.proxy[h]] += law("votes", now, h, 0, 999);
        }
        return has;
    }

    private Set<Integer> heard(int h) {
        Set<Integer> set = new HashSet<>();
        for (int[] pair : text.hears) {
            if (pair[0] == h) {
                set.add(pair[1]);
            }
        }
        return set;
    }

    int house(int h, int what) {
        if (no(h) || out(what, 0, 9)) {
            return NONE;
        }
        int[] answers = {now.fish[h], now.coins[h], hunger(h), fear(h), now.salted[h], now.ate[h], now.proxy[h],
            law("votes", now, h, 0, 999), votes()[h], bits(heard(h))};
        return answers[what];
    }

    int tells(int h, int what) {
        if (what == 0) {
            return price(now);
        }
        if (no(h) || out(what, 1, 3)) {
            return NONE;
        }
        return what == 1 ? law("eats", now, h, 0, now.fish[h])
                : what == 2 ? law("rots", now, h, 0, now.fish[h] - now.salted[h]) : law("glut", now, h, 0, 99);
    }

    private void done(Now next) {
        past.addLast(now);
        if (past.size() > 40) {
            past.removeFirst();
        }
        now = next;
    }

    int buy(int h, int other, int n) {
        if (no(h) || no(other) || h == other || out(n, 1, 99)) {
            return NONE;
        }
        int cost = price(now) * n;
        Now next = now.copy();
        next.coins[h] -= cost;
        next.coins[other] += cost;
        if (now.fish[other] < n || next.coins[h] < 0 || next.coins[other] > 9999 || now.fish[h] + n > 9999) {
            return -2;
        }
        for (int i = 0; i < n; i++) {
            if (next.fish[other] == next.salted[other]) {
                next.salted[other]--;
                next.salted[h]++;
            }
            next.fish[other]--;
            next.fish[h]++;
        }
        done(next);
        return cost;
    }

    int eat(int h, int n) {
        if (no(h) || out(n, 1, 99)) {
            return NONE;
        }
        if (now.fish[h] < n) {
            return -2;
        }
        Now next = now.copy();
        next.eats(h, n);
        done(next);
        return now.fish[h];
    }

    int salts(int h, int n) {
        if (no(h) || out(n, 1, 99)) {
            return NONE;
        }
        if (now.fish[h] - now.salted[h] < n || now.salt < n) {
            return -2;
        }
        Now next = now.copy();
        next.salted[h] += n;
        next.salt -= n;
        done(next);
        return now.salt;
    }

    boolean proxy(int h, int to) {
        if (no(h) || to != NONE && no(to) || h == to) {
            return false;
        }
        int whom = to == NONE ? -2 : to;
        if (now.proxy[h] == whom) {
            return false;
        }
        for (int g = 0; g < size(); g++) {
            if (now.proxy[g] == h) {
                return false;
            }
        }
        if (to != NONE && now.proxy[to] != -2) {
            return false;
        }
        Now next = now.copy();
        next.proxy[h] = whom;
        done(next);
        return true;
    }

    int days(int n) {
        if (out(n, 0, 60)) {
            return NONE;
        }
        if (n > 0) {
            done(after(now, n, text.seed));
        }
        return now.day;
    }

    boolean undo() {
        if (past.isEmpty()) {
            return false;
        }
        now = past.removeLast();
        return true;
    }

    private Set<Integer> panicSet(int h, Set<Integer> calmed) {
        Set<Integer> eating = new HashSet<>();
        eating.add(h);
        boolean more = true;
        while (more) {
            more = false;
            for (int g = 0; g < size(); g++) {
                Set<Integer> seen = heard(g);
                seen.retainAll(eating);
                if (!eating.contains(g) && !calmed.contains(g) && seen.size() >= fear(g)) {
                    eating.add(g);
                    more = true;
                }
            }
        }
        return eating;
    }

    int panic(int h) {
        return no(h) ? NONE : bits(panicSet(h, Set.of()));
    }

    int spark(int what) {
        if (out(what, 0, 1)) {
            return NONE;
        }
        if (size() == 0) {
            return -2;
        }
        int most = 0;
        int best = 0;
        for (int h = size() - 1; h >= 0; h--) {
            int eat = panicSet(h, Set.of()).size();
            if (eat >= most) {
                most = eat;
                best = h;
            }
        }
        return what == 0 ? best : most;
    }

    private List<List<Integer>> choices(int k, int from) {
        List<List<Integer>> all = new ArrayList<>();
        if (k == 0) {
            all.add(new ArrayList<>());
            return all;
        }
        for (int h = from; h < size(); h++) {
            for (List<Integer> rest : choices(k - 1, h + 1)) {
                rest.add(0, h);
                all.add(rest);
            }
        }
        return all;
    }

    int calm(int h, int other, int i) {
        if (no(h) || no(other) || h == other || out(i, -1, 2)) {
            return NONE;
        }
        for (int k = 0; k <= 3; k++) {
            for (List<Integer> set : choices(k, 0)) {
                if (!set.contains(h) && !set.contains(other)
                        && !panicSet(h, new HashSet<>(set)).contains(other)) {
                    return i == NONE ? k : i < k ? set.get(i) : NONE;
                }
            }
        }
        return -2;
    }

    private int turns(int h) {
        int[] votes = votes();
        int all = sum(votes);
        int turns = 0;
        for (int k = 0; k < size(); k++) {
            for (List<Integer> set : choices(k, 0)) {
                int s = 0;
                for (int g : set) {
                    s += votes[g];
                }
                if (!set.contains(h) && s <= all - s && s + votes[h] > all - s - votes[h]) {
                    turns++;
                }
            }
        }
        return turns;
    }

    int power(int h, boolean below) {
        if (no(h)) {
            return NONE;
        }
        int all = 0;
        for (int g = 0; g < size(); g++) {
            all += turns(g);
        }
        int own = turns(h);
        if (own == 0) {
            return below ? 1 : 0;
        }
        for (int d = own; d > 1; d--) {
            if (own % d == 0 && all % d == 0) {
                own /= d;
                all /= d;
            }
        }
        return below ? all : own;
    }

    int strongest(int what) {
        if (out(what, 0, 1)) {
            return NONE;
        }
        if (size() == 0) {
            return -2;
        }
        int best = 0;
        for (int h = 0; h < size(); h++) {
            best = turns(h) > turns(best) ? h : best;
        }
        return what == 0 ? best : turns(best);
    }

    /** The fewest of the others, all sets tried, with which those of a set have more than half. */
    private int fewest(int[] amounts, Set<Integer> already) {
        for (int k = 0; k <= size(); k++) {
            for (List<Integer> set : choices(k, 0)) {
                int s = 0;
                for (int g = 0; g < size(); g++) {
                    s += already.contains(g) || set.contains(g) ? amounts[g] : -amounts[g];
                }
                Set<Integer> shared = new HashSet<>(set);
                shared.retainAll(already);
                if (shared.isEmpty() && s > 0) {
                    return k;
                }
            }
        }
        return -2;
    }

    int allies(int h) {
        return no(h) ? NONE : fewest(votes(), Set.of(h));
    }

    int takeover(int h, int what) {
        if (no(h) || out(what, 0, 1)) {
            return NONE;
        }
        int all = sum(now.fish);
        int bought = 0;
        while (2 * (now.fish[h] + bought) <= all) {
            bought++;
        }
        if (all == 0 || bought * price(now) > now.coins[h]) {
            return -2;
        }
        return what == 0 ? bought * price(now) : fewest(now.fish, Set.of(h));
    }

    int motion(int m, int what) {
        if (out(m, 0, text.motions.size() - 1) || out(what, 0, 2)) {
            return NONE;
        }
        int[] votes = votes();
        int yes = 0;
        for (int h : text.motions.get(m)) {
            yes += votes[h];
        }
        boolean carried = yes > sum(votes) - yes;
        return what == 0 ? (carried ? 1 : 0) : what == 1 ? yes : fewest(votes, text.motions.get(m));
    }

    int sell(int h, int n, int what) {
        if (no(h) || out(n, 0, 24) || out(what, 0, 1)) {
            return NONE;
        }
        int best = -1;
        int day = 0;
        for (int d = 0; d <= n; d++) {
            Now then = after(now, d, text.seed);
            if (then.fish[h] * price(then) > best) {
                best = then.fish[h] * price(then);
                day = d;
            }
        }
        return what == 0 ? day : best;
    }

    int salting(int h, int n) {
        if (no(h) || out(n, 1, 24)) {
            return NONE;
        }
        Now salted = now.copy();
        salted.salted[h] = salted.fish[h];
        int want = after(salted, n, text.seed).fish[h];
        for (int k = 0; k <= 99 && k <= now.fish[h] - now.salted[h]; k++) {
            salted.salted[h] = now.salted[h] + k;
            if (after(salted, n, text.seed).fish[h] >= want) {
                return k;
            }
        }
        return -2;
    }

    int dearest(int n, int what) {
        if (out(n, 0, 24) || out(what, 0, 1)) {
            return NONE;
        }
        int day = 0;
        for (int d = 0; d <= n; d++) {
            day = priceIn(d) > priceIn(day) ? d : day;
        }
        return what == 0 ? day : priceIn(day);
    }

    int poorest(int n, int what) {
        if (out(n, 0, 60) || out(what, 0, 1)) {
            return NONE;
        }
        if (size() == 0) {
            return -2;
        }
        int[] fish = after(now, n, text.seed).fish;
        int best = 0;
        for (int h = 0; h < size(); h++) {
            best = fish[h] < fish[best] ? h : best;
        }
        return what == 0 ? best : fish[best];
    }

    int quiet(int h) {
        if (no(h)) {
            return NONE;
        }
        int b = 0;
        for (int g = 0; g < size(); g++) {
            b |= panicSet(g, Set.of()).contains(h) ? 0 : 1 << g;
        }
        return b;
    }

    int share(int h) {
        if (no(h)) {
            return NONE;
        }
        int all = 0;
        for (int g = 0; g < size(); g++) {
            all += hunger(g);
        }
        return all == 0 ? 0 : sum(now.fish) * hunger(h) / all;
    }

    int priceIn(int n) {
        return out(n, 0, 60) ? NONE : price(after(now, n, text.seed));
    }

    int then(int h, int n, int what) {
        if (no(h) || out(n, 0, 60) || out(what, 0, 2)) {
            return NONE;
        }
        Now then = after(now, n, text.seed);
        return what == 0 ? then.fish[h] : what == 1 ? then.ate[h] - now.ate[h] : then.salted[h];
    }

    int allIn(int n) {
        return out(n, 0, 60) ? NONE : sum(after(now, n, text.seed).fish);
    }

    int deals(int what) {
        if (out(what, 0, 1)) {
            return NONE;
        }
        List<Integer> pairs = new ArrayList<>();
        for (int a = 0; a < size(); a++) {
            for (int b = 0; b < size(); b++) {
                if (now.fish[a] > 0 && now.coins[a] < price(now) && !(now.coins[b] < price(now))
                        && hunger(b) > hunger(a)) {
                    pairs.add(10 * a + b);
                }
            }
        }
        return what == 0 ? pairs.size() : pairs.isEmpty() ? -2 : pairs.get(0);
    }

    int ruin(int h, int n, int s) {
        if (no(h) || out(n, 0, 60) || out(s, 1, 20)) {
            return NONE;
        }
        int ruined = 0;
        for (int i = 0; i < s; i++) {
            ruined += after(now, n, text.seed + i).fish[h] == 0 ? 1 : 0;
        }
        return ruined;
    }

    int tell(int h, boolean ate) {
        if (no(h) || told.size() == 20) {
            return NONE;
        }
        told.add(new int[] {h, ate ? 1 : 0});
        return told.size() - 1;
    }

    int forget() {
        int were = told.size();
        told.clear();
        return were;
    }

    private Set<Integer> beganBy(List<int[]> known) {
        Set<Integer> set = new HashSet<>();
        for (int h = 0; h < size(); h++) {
            boolean may = true;
            for (int[] t : known) {
                may &= panicSet(h, Set.of()).contains(t[0]) == (t[1] == 1);
            }
            if (may) {
                set.add(h);
            }
        }
        return set;
    }

    int began(int k, int what) {
        if (out(k, 0, told.size()) || out(what, 0, 1)) {
            return NONE;
        }
        Set<Integer> set = beganBy(told.subList(0, k));
        return what == 0 ? set.size() : bits(set);
    }

    int ask(int k) {
        if (out(k, 0, told.size())) {
            return NONE;
        }
        if (beganBy(told.subList(0, k)).isEmpty()) {
            return -2;
        }
        int best = NONE;
        int fewest = 99;
        for (int h = 0; h < size(); h++) {
            int worst = 0;
            for (int answer = 0; answer < 2; answer++) {
                List<int[]> known = new ArrayList<>(told.subList(0, k));
                known.add(new int[] {h, answer});
                worst = Math.max(worst, beganBy(known).size());
            }
            if (worst < fewest) {
                fewest = worst;
                best = h;
            }
        }
        return best;
    }

    boolean hold(int slot) {
        if (out(slot, 0, 2)) {
            return false;
        }
        slots[slot] = now;
        return true;
    }

    boolean restore(int slot) {
        if (out(slot, 0, 2) || slots[slot] == null) {
            return false;
        }
        now = slots[slot];
        past.clear();
        return true;
    }

    int count(int what) {
        if (out(what, 0, 14)) {
            return NONE;
        }
        int held = 0;
        for (Now slot : slots) {
            held += slot == null ? 0 : 1;
        }
        int[] answers = {size(), text.hears.size(), text.motions.size(), now.day, sum(now.fish), sum(now.coins),
            sum(now.ate), now.salt, tape.length(), past.size(), told.size(), held, sum(votes()),
            glut(now, text.seed) ? 1 : 0, sum(now.salted)};
        return answers[what];
    }
}
