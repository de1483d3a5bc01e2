/**
 * A company town in which herrings are shares. The promises that its answers keep stand in the
 * document; the words in capitals in comments are the document's own.
 */
public final class HerringShares {
    public static final int NONE = -1;

    private static final int NOT = -2;
    private static final int MAX_HOUSES = 7;
    private static final int MAX_MOTIONS = 5;
    private static final int MAX_TOLD = 20;
    private static final int MAX_BY_HAND = 99;
    private static final int MAX_HELD = 9999;
    private static final int MAX_DAYS = 60;
    private static final int MAX_LOOK = 24;

    private final Tape tape = new Tape();
    private final Tokens tokens = new Tokens(tape);
    private final Parser parser = new Parser(tokens);
    private final Teller teller = new Teller(tokens);
    private final State now = new State();
    private final Past past = new Past();
    private final Life life = new Life();
    private final Council council = new Council(life);
    private final Panics panics = new Panics();
    private Town town = new Town();
    private Town draft = new Town();
    private int faultPlace = NONE;

    public HerringShares() {
        now.begin(town);
    }

    public int feed(int a, int b, int c, int d, int e) {
        if (!tape.hasRoom(20)) {
            return NONE;
        }
        tape.add(a);
        tape.add(b);
        tape.add(c);
        tape.add(d);
        tape.add(e);
        return tape.length;
    }

    public int back(int n) {
        if (n < 0 || n > tape.length) {
            return NONE;
        }
        tape.length -= n;
        return tape.length;
    }

    public int read() {
        draft.clear();
        tokens.scan();
        parser.parse(draft.laws);
        int fault = parser.fault;
        int token = parser.at;
        if (fault == 0) {
            teller.fill(draft);
            fault = teller.fault;
            token = teller.faultToken;
        }
        faultPlace = fault == 0 ? NONE : tokens.placeOf(token);
        tape.length = 0;
        if (fault == 0) {
            takeDraft();
        }
        return fault;
    }

    public int place() {
        return faultPlace;
    }

    public int house(int house, int what) {
        if (!isHouse(house)) {
            return NONE;
        }
        switch (what) {
            case 0: return now.fish[house];
            case 1: return now.coins[house];
            case 2: return town.hunger[house];
            case 3: return town.fear[house];
            case 4: return now.salted[house];
            case 5: return now.ate[house];
            case 6: return now.proxy[house] == NONE ? NOT : now.proxy[house];
            case 7: return life.votes(town, now, house, now.allFish());
            case 8: return votesHad(house);
            case 9: return town.heard[house];
            default: return NONE;
        }
    }

    public int tells(int house, int what) {
        if (what == 0) {
            return life.price(town, now);
        }
        if (!isHouse(house)) {
            return NONE;
        }
        switch (what) {
            case 1: return life.eaten(town, now, house, now.allFish());
            case 2: return life.rotten(town, now, house, now.allFish());
            case 3: return life.caught(town, now, house, now.allFish());
            default: return NONE;
        }
    }

    public int buy(int house, int other, int n) {
        if (!isHouse(house) || !isHouse(other) || house == other || !isByHand(n)) {
            return NONE;
        }
        int cost = n * life.price(town, now);
        if (now.fish[other] < n || now.coins[house] < cost
                || now.fish[house] + n > MAX_HELD || now.coins[other] + cost > MAX_HELD) {
            return NOT;
        }
        past.keep(now);
        now.move(other, house, n);
        now.coins[house] -= cost;
        now.coins[other] += cost;
        return cost;
    }

    public int eat(int house, int n) {
        if (!isHouse(house) || !isByHand(n)) {
            return NONE;
        }
        if (now.fish[house] < n) {
            return NOT;
        }
        past.keep(now);
        now.consume(house, n);
        return now.fish[house];
    }

    public int salts(int house, int n) {
        if (!isHouse(house) || !isByHand(n)) {
            return NONE;
        }
        if (now.fresh(house) < n || now.salt < n) {
            return NOT;
        }
        past.keep(now);
        now.salted[house] += n;
        now.salt -= n;
        return now.salt;
    }

    public boolean proxy(int house, int to) {
        boolean known = isHouse(house) && (to == NONE || isHouse(to));
        if (!known || house == to || now.proxy[house] == to) {
            return false;
        }
        if (to != NONE && (now.hasProxy(house) || now.proxy[to] != NONE)) {
            return false;
        }
        past.keep(now);
        now.proxy[house] = to;
        return true;
    }

    public int days(int n) {
        if (!isSpan(n)) {
            return NONE;
        }
        if (n > 0) {
            past.keep(now);
            life.passMany(town, now, n, town.seed);
        }
        return now.day;
    }

    public boolean undo() {
        return past.bringBack(now);
    }

    public int panic(int house) {
        return isHouse(house) ? panics.eaters(town, house, 0) : NONE;
    }

    public int spark(int what) {
        if (!isFirstOrSecond(what)) {
            return NONE;
        }
        if (town.houses == 0) {
            return NOT;
        }
        int best = panics.widest(town);
        return what == 0 ? best : Integer.bitCount(panics.eaters(town, best, 0));
    }

    public int calm(int house, int other, int i) {
        if (!isHouse(house) || !isHouse(other) || house == other || i < NONE || i > 2) {
            return NONE;
        }
        int calmed = panics.fewestCalmed(town, house, other);
        if (calmed == NOT) {
            return NOT;
        }
        return i == NONE ? Integer.bitCount(calmed) : panics.member(calmed, i);
    }

    public int power(int house, boolean below) {
        if (!isHouse(house)) {
            return NONE;
        }
        council.gather(town, now);
        council.countTurns();
        int own = council.turns[house];
        int all = council.allTurns();
        int common = divisor(own, all);
        if (common < 1) {
            return below ? 1 : 0;
        }
        return (below ? all : own) / common;
    }

    public int strongest(int what) {
        if (!isFirstOrSecond(what)) {
            return NONE;
        }
        if (town.houses == 0) {
            return NOT;
        }
        council.gather(town, now);
        council.countTurns();
        int best = council.mostTurns();
        return what == 0 ? best : council.turns[best];
    }

    public int allies(int house) {
        if (!isHouse(house)) {
            return NONE;
        }
        council.gather(town, now);
        return council.fewestToMajority(council.had, 1 << house, town.houses);
    }

    public int takeover(int house, int what) {
        if (!isHouse(house) || !isFirstOrSecond(what)) {
            return NONE;
        }
        int all = now.allFish();
        int lacking = Math.max(0, all / 2 + 1 - now.fish[house]);
        int cost = lacking * life.price(town, now);
        if (all == 0 || cost > now.coins[house]) {
            return NOT;
        }
        return what == 0 ? cost : council.fewestToMajority(now.fish, 1 << house, town.houses);
    }

    public int motion(int motion, int what) {
        if (motion < 0 || motion >= town.motions || what < 0 || what > 2) {
            return NONE;
        }
        council.gather(town, now);
        int supporters = town.supporters[motion];
        int votes = council.sum(council.had, supporters);
        if (what == 0) {
            return votes > council.all - votes ? 1 : 0;
        }
        return what == 1 ? votes : council.fewestToMajority(council.had, supporters, town.houses);
    }

    public int sell(int house, int n, int what) {
        if (!isHouse(house) || !isLook(n) || !isFirstOrSecond(what)) {
            return NONE;
        }
        life.findBestSale(town, now, house, n);
        return what == 0 ? life.bestDay : life.bestValue;
    }

    public int salting(int house, int n) {
        if (!isHouse(house) || !isLook(n) || n == 0) {
            return NONE;
        }
        return life.leastSalting(town, now, house, n);
    }

    public int dearest(int n, int what) {
        if (!isLook(n) || !isFirstOrSecond(what)) {
            return NONE;
        }
        life.findDearest(town, now, n);
        return what == 0 ? life.bestDay : life.bestValue;
    }

    public int poorest(int n, int what) {
        if (!isSpan(n) || !isFirstOrSecond(what)) {
            return NONE;
        }
        if (town.houses == 0) {
            return NOT;
        }
        State later = life.after(town, now, n, town.seed);
        int best = later.fewestFish();
        return what == 0 ? best : later.fish[best];
    }

    public int quiet(int house) {
        return isHouse(house) ? panics.quietFor(town, house) : NONE;
    }

    public int share(int house) {
        if (!isHouse(house)) {
            return NONE;
        }
        int hunger = town.allHunger();
        return hunger <= 0 ? 0 : now.allFish() * town.hunger[house] / hunger;
    }

    public int priceIn(int n) {
        return isSpan(n) ? life.price(town, life.after(town, now, n, town.seed)) : NONE;
    }

    public int then(int house, int n, int what) {
        if (!isHouse(house) || !isSpan(n) || what < 0 || what > 2) {
            return NONE;
        }
        State later = life.after(town, now, n, town.seed);
        switch (what) {
            case 0: return later.fish[house];
            case 1: return later.ate[house] - now.ate[house];
            default: return later.salted[house];
        }
    }

    public int allIn(int n) {
        return isSpan(n) ? life.after(town, now, n, town.seed).allFish() : NONE;
    }

    public int deals(int what) {
        if (!isFirstOrSecond(what)) {
            return NONE;
        }
        int price = life.price(town, now);
        int found = 0;
        int first = NOT;
        for (int giver = 0; giver < town.houses; giver++) {
            for (int taker = 0; taker < town.houses; taker++) {
                if (isDeal(giver, taker, price)) {
                    first = found == 0 ? 10 * giver + taker : first;
                    found++;
                }
            }
        }
        return what == 0 ? found : first;
    }

    public int ruin(int house, int n, int s) {
        if (!isHouse(house) || !isSpan(n) || s < 1 || s > 20) {
            return NONE;
        }
        int ruined = 0;
        for (int i = 0; i < s; i++) {
            if (life.after(town, now, n, town.seed + i).fish[house] == 0) {
                ruined++;
            }
        }
        return ruined;
    }

    public int tell(int house, boolean ate) {
        if (!isHouse(house) || panics.told >= MAX_TOLD) {
            return NONE;
        }
        return panics.note(house, ate);
    }

    public int forget() {
        int were = panics.told;
        panics.told = 0;
        return were;
    }

    public int began(int k, int what) {
        if (k < 0 || k > panics.told || !isFirstOrSecond(what)) {
            return NONE;
        }
        int suspects = panics.suspects(town, k);
        return what == 0 ? Integer.bitCount(suspects) : suspects;
    }

    public int ask(int k) {
        if (k < 0 || k > panics.told) {
            return NONE;
        }
        int suspects = panics.suspects(town, k);
        return suspects == 0 ? NOT : panics.bestQuestion(town, suspects);
    }

    public boolean hold(int slot) {
        return past.store(slot, now);
    }

    public boolean restore(int slot) {
        return past.fetch(slot, now);
    }

    public int count(int what) {
        switch (what) {
            case 0: return town.houses;
            case 1: return town.hearings;
            case 2: return town.motions;
            case 3: return now.day;
            case 4: return now.allFish();
            case 5: return now.sum(now.coins);
            case 6: return now.sum(now.ate);
            case 7: return now.salt;
            case 8: return tape.length;
            case 9: return past.size;
            case 10: return panics.told;
            case 11: return past.slotsHeld();
            case 12: return allVotes();
            case 13: return life.isGlut(town, now.day, town.seed) ? 1 : 0;
            case 14: return now.sum(now.salted);
            default: return NONE;
        }
    }

    /** The text that was read is in place of the one ahead. */
    private void takeDraft() {
        Town old = town;
        town = draft;
        draft = old;
        now.begin(town);
        past.clear();
        panics.told = 0;
    }

    private boolean isHouse(int house) {
        return house >= 0 && house < town.houses;
    }

    private boolean isByHand(int n) {
        return n >= 1 && n <= MAX_BY_HAND;
    }

    private boolean isSpan(int n) {
        return n >= 0 && n <= MAX_DAYS;
    }

    private boolean isLook(int n) {
        return n >= 0 && n <= MAX_LOOK;
    }

    private boolean isFirstOrSecond(int what) {
        return what == 0 || what == 1;
    }

    private boolean isDeal(int giver, int taker, int price) {
        return now.fish[giver] > 0 && now.coins[giver] < price
                && now.coins[taker] >= price && town.hunger[taker] > town.hunger[giver];
    }

    private int votesHad(int house) {
        council.gather(town, now);
        return council.had[house];
    }

    private int allVotes() {
        council.gather(town, now);
        return council.all;
    }

    private static int divisor(int a, int b) {
        int high = Math.max(a, b);
        int low = Math.min(a, b);
        // two steps at least halve an int, so 64 are enough
        for (int i = 0; i < 64 && low > 0; i++) {
            int rest = high % low;
            high = low;
            low = rest;
        }
        return high;
    }

    /** The bytes that wait to be read. */
    private static final class Tape {
        static final int MOST = 2000;

        final byte[] bytes = new byte[MOST];
        int length;

        boolean hasRoom(int n) {
            return length + n <= MOST;
        }

        void add(int word) {
            for (int shift = 24; shift >= 0; shift -= 8) {
                if (length < MOST) {
                    bytes[length] = (byte) (word >>> shift);
                    length++;
                }
            }
        }

        /** The byte at a place, NONE behind the end. */
        int sign(int at) {
            return at >= 0 && at < length && at < MOST ? bytes[at] & 255 : NONE;
        }
    }

    /** The TOKENS of a text, as far as the first thing that is none, or the first one too many. */
    private static final class Tokens {
        static final int MOST = 400;
        static final int HOUSE = 0;
        static final int HEARS = 1;
        static final int MOTION = 2;
        static final int PRICE = 3;
        static final int ROTS = 7;
        static final int SALT = 8;
        static final int ODDS = 9;
        static final int SEED = 10;
        static final int IF = 11;
        static final int THEN = 12;
        static final int ELSE = 13;
        static final int FISH = 14;
        static final int WHICH = 22;
        static final int NAME = 23;
        static final int INT = 24;
        static final int END = 25;
        static final int BAD = 26;
        static final int SEMICOLON = 27;
        static final int EQUALS = 28;
        static final int PLUS = 29;
        static final int MINUS = 30;
        static final int TIMES = 31;
        static final int OVER = 32;
        static final int LESS = 33;
        static final int OPEN = 34;
        static final int CLOSE = 35;

        private static final int WORDS = 23;
        private static final int WIDTH = 6;
        // each word filled up to WIDTH, so that a word is found by its number
        private static final String WORD_LIST =
                "house hears motionprice eats  glut  votes rots  salt  odds  seed  if    then  else  fish  all   day   hungercoins fear  saltedate   which ";
        // in the order of the kinds from SEMICOLON on
        private static final String SIGNS = ";=+-*/<()";

        private final int[] kinds = new int[MOST + 1];
        private final int[] places = new int[MOST + 1];
        private final int[] values = new int[MOST + 1];
        private final Tape tape;
        private int length;
        private int size;
        private int at;

        Tokens(Tape tape) {
            this.tape = tape;
        }

        int kind(int i) {
            return i >= 0 && i < size ? kinds[i] : END;
        }

        /** The byte of a TOKEN; behind the last one, the text's end. */
        int placeOf(int i) {
            return i >= 0 && i < size ? places[i] : length;
        }

        /** The number of an INT, the length of a NAME. */
        int value(int i) {
            return i >= 0 && i < size ? values[i] : 0;
        }

        void scan() {
            length = tape.length;
            size = 0;
            at = 0;
            boolean more = true;
            for (int i = 0; i <= MOST && more; i++) {
                skipBlanks();
                more = at < length && scanOne();
            }
        }

        boolean sameName(int one, int other) {
            int letters = value(one);
            boolean same = letters == value(other);
            for (int i = 0; i < letters && same; i++) {
                same = tape.sign(placeOf(one) + i) == tape.sign(placeOf(other) + i);
            }
            return same;
        }

        private void skipBlanks() {
            for (int i = 0; i < Tape.MOST && isBlank(tape.sign(at)); i++) {
                at++;
            }
        }

        /** Whether there may be more behind it. */
        private boolean scanOne() {
            int sign = tape.sign(at);
            int kind;
            int value = 0;
            int signs = 1;
            if (isLetter(sign)) {
                signs = letters();
                value = signs;
                kind = signs > 8 ? BAD : wordOrName(signs);
            } else if (isDigit(sign)) {
                signs = digits();
                kind = signs > 4 ? BAD : INT;
                value = signs > 4 ? 0 : number(signs);
            } else {
                int found = SIGNS.indexOf((char) sign);
                kind = found < 0 ? BAD : SEMICOLON + found;
            }
            put(kind, value);
            at += signs;
            return kind != BAD;
        }

        private void put(int kind, int value) {
            if (size <= MOST) {
                kinds[size] = kind;
                places[size] = at;
                values[size] = value;
                size++;
            }
        }

        private int letters() {
            int signs = 0;
            for (int i = 0; i < Tape.MOST && isLetter(tape.sign(at + i)); i++) {
                signs++;
            }
            return signs;
        }

        private int digits() {
            int signs = 0;
            for (int i = 0; i < Tape.MOST && isDigit(tape.sign(at + i)); i++) {
                signs++;
            }
            return signs;
        }

        private int number(int signs) {
            int number = 0;
            for (int i = 0; i < signs; i++) {
                number = number * 10 + tape.sign(at + i) - '0';
            }
            return number;
        }

        private int wordOrName(int signs) {
            for (int word = 0; word < WORDS && signs <= WIDTH; word++) {
                if (isWord(word, signs)) {
                    return word;
                }
            }
            return NAME;
        }

        private boolean isWord(int word, int signs) {
            boolean same = true;
            for (int i = 0; i < WIDTH && same; i++) {
                int sign = i < signs ? tape.sign(at + i) : ' ';
                same = WORD_LIST.charAt(word * WIDTH + i) == sign;
            }
            return same;
        }

        private static boolean isBlank(int sign) {
            return sign == 9 || sign == 10 || sign == 13 || sign == 32;
        }

        private static boolean isLetter(int sign) {
            return sign >= 'a' && sign <= 'z';
        }

        private static boolean isDigit(int sign) {
            return sign >= '0' && sign <= '9';
        }
    }

    /** The LAWS of a text, as steps of a small machine with a stack. */
    private static final class Laws {
        static final int COUNT = 5;
        static final int PRICE = 0;
        static final int EATS = 1;
        static final int GLUT = 2;
        static final int VOTES = 3;
        static final int ROTS = 4;

        static final int PUSH = 0;
        static final int LOAD = 1;
        static final int ADD = 2;
        static final int SUBTRACT = 3;
        static final int MULTIPLY = 4;
        static final int DIVIDE = 5;
        static final int UNLESS_LESS = 6;
        static final int ANSWER = 7;

        // the VARS, in the order of their words among the TOKENS
        static final int VARS = 9;
        static final int FISH = 0;
        static final int ALL = 1;
        static final int DAY = 2;
        static final int HUNGER = 3;
        static final int COINS = 4;
        static final int FEAR = 5;
        static final int SALTED = 6;
        static final int ATE = 7;
        static final int WHICH = 8;

        // a step a TOKEN at most, and two for each LAW that is not told
        private static final int MOST = Tokens.MOST + 2 * COUNT;
        // seven levels of ( ), two operands waiting in each, and one E waiting for the other's <
        private static final int STACK = 24;

        private final int[] steps = new int[MOST];
        private final int[] operands = new int[MOST];
        private final int[] starts = new int[COUNT];
        private final int[] stack = new int[STACK];
        // what the next value is told of
        final int[] vars = new int[VARS];
        private int size;

        /** The LAWS that stand if none is told. */
        void reset() {
            size = 0;
            putUntold(PRICE, PUSH, 10);
            putUntold(EATS, PUSH, 0);
            putUntold(GLUT, PUSH, 5);
            putUntold(VOTES, LOAD, FISH);
            putUntold(ROTS, PUSH, 0);
        }

        private void putUntold(int law, int step, int operand) {
            startHere(law);
            put(step, operand);
            put(ANSWER, 0);
        }

        void startHere(int law) {
            if (law >= 0 && law < COUNT) {
                starts[law] = size;
            }
        }

        /** The place of the step. */
        int put(int step, int operand) {
            if (size < MOST) {
                steps[size] = step;
                operands[size] = operand;
                size++;
            }
            return size - 1;
        }

        void leadHere(int place) {
            if (place >= 0 && place < size) {
                operands[place] = size;
            }
        }

        int value(int law) {
            int at = law >= 0 && law < COUNT ? starts[law] : size;
            int top = 0;
            for (int i = 0; i < size && at >= 0 && at < size; i++) {
                int step = steps[at];
                if (step == ANSWER) {
                    return top > 0 ? stack[top - 1] : 0;
                }
                if (step <= LOAD) {
                    if (top >= STACK) {
                        return 0;
                    }
                    stack[top] = step == PUSH ? operands[at] : varValue(operands[at]);
                    top++;
                    at++;
                    continue;
                }
                if (top < 2) {
                    return 0;
                }
                int left = stack[top - 2];
                int right = stack[top - 1];
                if (step == UNLESS_LESS) {
                    top -= 2;
                    at = left < right ? at + 1 : operands[at];
                    continue;
                }
                if (step == DIVIDE && right == 0) {
                    return 0;
                }
                top--;
                stack[top - 1] = joined(step, left, right);
                at++;
            }
            return 0;
        }

        private int varValue(int which) {
            return which >= 0 && which < VARS ? vars[which] : 0;
        }

        private static int joined(int step, int left, int right) {
            switch (step) {
                case ADD: return left + right;
                case SUBTRACT: return left - right;
                case MULTIPLY: return left * right;
                default: return right == 0 ? 0 : left / right;
            }
        }
    }

    /** What a text tells. */
    private static final class Town {
        static final int MOST_HEARINGS = 16;

        final int[] fish = new int[MAX_HOUSES];
        final int[] coins = new int[MAX_HOUSES];
        final int[] hunger = new int[MAX_HOUSES];
        final int[] fear = new int[MAX_HOUSES];
        final int[] heard = new int[MAX_HOUSES];
        final int[] supporters = new int[MAX_MOTIONS];
        final Laws laws = new Laws();
        int houses;
        int hearings;
        int motions;
        int salt;
        int odds;
        int seed;

        Town() {
            clear();
        }

        /** As if told by an empty text. */
        void clear() {
            houses = 0;
            hearings = 0;
            motions = 0;
            salt = 20;
            odds = 0;
            seed = 0;
            laws.reset();
        }

        int allHunger() {
            int sum = 0;
            for (int i = 0; i < houses; i++) {
                sum += hunger[i];
            }
            return sum;
        }
    }

    /** Finds the first FAULT of SYNTAX or ROOM, and puts the LAWS into steps on the way. */
    private static final class Parser {
        private static final int SYNTAX = 1;
        private static final int ROOM = 2;
        private static final int MOST_IFS = 4;
        private static final int MOST_OPEN = 6;

        private final Tokens tokens;
        private Laws laws;
        int at;
        private int houses;
        private int hearings;
        private int motions;
        // the kind of the TOKEN that comes next
        private int next;
        int fault;

        Parser(Tokens tokens) {
            this.tokens = tokens;
        }

        /** A FAULT is at the TOKEN at which it stops. */
        void parse(Laws into) {
            laws = into;
            at = 0;
            next = tokens.kind(0);
            houses = 0;
            hearings = 0;
            motions = 0;
            fault = 0;
            for (int i = 0; i <= Tokens.MOST && fault == 0 && next != Tokens.END; i++) {
                if (next == Tokens.HOUSE) {
                    parseHouse();
                } else if (next == Tokens.HEARS) {
                    parseHearing();
                } else if (next == Tokens.MOTION) {
                    parseMotion();
                } else if (next >= Tokens.PRICE && next <= Tokens.ROTS) {
                    parseLaw(next - Tokens.PRICE);
                } else if (next >= Tokens.SALT && next <= Tokens.SEED) {
                    parseNumber();
                } else {
                    fail(SYNTAX);
                }
            }
        }

        private void fail(int number) {
            fault = fault == 0 ? number : fault;
        }

        /** Goes behind the next TOKEN, if it is of the kind and there is room for it. */
        private void take(int kind) {
            if (next != kind) {
                fail(SYNTAX);
            }
            if (at >= Tokens.MOST) {
                fail(ROOM);
            }
            if (fault == 0) {
                at++;
                next = tokens.kind(at);
            }
        }

        /** One more of a sort: it has no room if there are as many as may be. */
        private void takeSort(int told, int most) {
            if (told >= most) {
                fail(ROOM);
            }
            take(next);
        }

        private void parseNumber() {
            take(next);
            take(Tokens.INT);
            take(Tokens.SEMICOLON);
        }

        private void parseHouse() {
            takeSort(houses, MAX_HOUSES);
            houses++;
            take(Tokens.NAME);
            for (int i = 0; i < 4; i++) {
                take(Tokens.INT);
            }
            take(Tokens.SEMICOLON);
        }

        private void parseHearing() {
            takeSort(hearings, Town.MOST_HEARINGS);
            hearings++;
            take(Tokens.NAME);
            take(Tokens.NAME);
            take(Tokens.SEMICOLON);
        }

        private void parseMotion() {
            takeSort(motions, MAX_MOTIONS);
            motions++;
            take(Tokens.NAME);
            for (int i = 0; i <= Tokens.MOST && fault == 0 && next == Tokens.NAME; i++) {
                take(next);
            }
            take(Tokens.SEMICOLON);
        }

        private void parseLaw(int law) {
            take(next);
            take(Tokens.EQUALS);
            laws.startHere(law);
            for (int i = 0; i <= MOST_IFS && fault == 0 && next == Tokens.IF; i++) {
                takeSort(i, MOST_IFS);
                parseSum(0);
                take(Tokens.LESS);
                parseSum(0);
                take(Tokens.THEN);
                int unless = laws.put(Laws.UNLESS_LESS, 0);
                parseSum(0);
                take(Tokens.ELSE);
                laws.put(Laws.ANSWER, 0);
                laws.leadHere(unless);
            }
            parseSum(0);
            take(Tokens.SEMICOLON);
            laws.put(Laws.ANSWER, 0);
        }

        private void parseSum(int depth) {
            parseProduct(depth);
            for (int i = 0; i <= Tokens.MOST && fault == 0 && isOne(Tokens.PLUS, Tokens.MINUS); i++) {
                int join = next == Tokens.PLUS ? Laws.ADD : Laws.SUBTRACT;
                take(next);
                parseProduct(depth);
                laws.put(join, 0);
            }
        }

        private void parseProduct(int depth) {
            parseUnit(depth);
            for (int i = 0; i <= Tokens.MOST && fault == 0 && isOne(Tokens.TIMES, Tokens.OVER); i++) {
                int join = next == Tokens.TIMES ? Laws.MULTIPLY : Laws.DIVIDE;
                take(next);
                parseUnit(depth);
                laws.put(join, 0);
            }
        }

        private boolean isOne(int kind, int other) {
            return next == kind || next == other;
        }

        private void parseUnit(int depth) {
            if (fault != 0) {
                return;
            }
            if (next == Tokens.INT) {
                laws.put(Laws.PUSH, tokens.value(at));
                take(next);
            } else if (next >= Tokens.FISH && next <= Tokens.WHICH) {
                laws.put(Laws.LOAD, next - Tokens.FISH);
                take(next);
            } else if (next != Tokens.OPEN) {
                fail(SYNTAX);
            } else if (depth >= MOST_OPEN) {
                fail(ROOM);
            } else {
                take(next);
                parseSum(depth + 1);
                take(Tokens.CLOSE);
            }
        }
    }

    /** Goes through a text without a FAULT of SYNTAX or ROOM, and puts into a town what it tells. */
    private static final class Teller {
        private static final int TWICE = 3;
        private static final int NAME = 4;
        private static final int WRONG = 5;

        private final Tokens tokens;
        // the TOKENS of the NAMES
        private final int[] houseNames = new int[MAX_HOUSES];
        private final int[] motionNames = new int[MAX_MOTIONS];
        private Town town;
        private int at;
        int fault;
        int faultToken;

        Teller(Tokens tokens) {
            this.tokens = tokens;
        }

        void fill(Town draft) {
            town = draft;
            at = 0;
            fault = 0;
            int kind = tokens.kind(0);
            for (int i = 0; i <= Tokens.MOST && fault == 0 && kind != Tokens.END; i++) {
                if (kind == Tokens.HOUSE) {
                    fillHouse();
                } else if (kind == Tokens.HEARS) {
                    fillHearing();
                } else if (kind == Tokens.MOTION) {
                    fillMotion();
                } else {
                    fillNumber(kind);
                }
                skipTell();
                kind = tokens.kind(at);
            }
        }

        private void fail(int number, int token) {
            if (fault == 0) {
                fault = number;
                faultToken = token;
            }
        }

        private void skipTell() {
            for (int i = 0; i <= Tokens.MOST && !isTellEnd(at); i++) {
                at++;
            }
            at++;
        }

        private boolean isTellEnd(int token) {
            return tokens.kind(token) == Tokens.SEMICOLON || tokens.kind(token) == Tokens.END;
        }

        private void fillNumber(int kind) {
            if (kind == Tokens.SALT) {
                town.salt = number(at + 1, 999);
            } else if (kind == Tokens.ODDS) {
                town.odds = number(at + 1, 100);
            } else if (kind == Tokens.SEED) {
                town.seed = number(at + 1, 9999);
            }
        }

        private int number(int token, int most) {
            int number = tokens.value(token);
            if (number > most) {
                fail(WRONG, token);
            }
            return number;
        }

        private void fillHouse() {
            int house = town.houses;
            if (house >= MAX_HOUSES) {
                return;
            }
            checkNewName(at + 1);
            houseNames[house] = at + 1;
            town.fish[house] = number(at + 2, 99);
            town.coins[house] = number(at + 3, 999);
            town.hunger[house] = number(at + 4, 9);
            town.fear[house] = number(at + 5, 9);
            town.heard[house] = 0;
            town.houses = house + 1;
        }

        private void checkNewName(int token) {
            boolean told = houseNamed(token) != NONE;
            for (int i = 0; i < town.motions && !told; i++) {
                told = tokens.sameName(motionNames[i], token);
            }
            if (told) {
                fail(TWICE, token);
            }
        }

        private int houseNamed(int token) {
            for (int i = 0; i < town.houses; i++) {
                if (tokens.sameName(houseNames[i], token)) {
                    return i;
                }
            }
            return NONE;
        }

        /** The HOUSE told ahead, or NONE and a FAULT. */
        private int knownHouse(int token) {
            int house = houseNamed(token);
            if (house == NONE) {
                fail(NAME, token);
            }
            return house;
        }

        private void fillHearing() {
            int hearer = knownHouse(at + 1);
            int source = knownHouse(at + 2);
            if (hearer == NONE || source == NONE) {
                return;
            }
            int bit = 1 << source;
            if (hearer == source || (town.heard[hearer] & bit) != 0) {
                fail(TWICE, at + 2);
            }
            town.heard[hearer] |= bit;
            town.hearings++;
        }

        private void fillMotion() {
            int motion = town.motions;
            if (motion >= MAX_MOTIONS) {
                return;
            }
            checkNewName(at + 1);
            motionNames[motion] = at + 1;
            town.motions = motion + 1;
            town.supporters[motion] = 0;
            for (int i = at + 2; i <= Tokens.MOST && fault == 0 && !isTellEnd(i); i++) {
                addSupporter(motion, i);
            }
        }

        private void addSupporter(int motion, int token) {
            int house = knownHouse(token);
            if (house == NONE) {
                return;
            }
            int bit = 1 << house;
            if ((town.supporters[motion] & bit) != 0) {
                fail(TWICE, token);
            }
            town.supporters[motion] |= bit;
        }
    }

    /** How all stands on a day. */
    private static final class State {
        static final int CELLS = 5 * MAX_HOUSES + 3;

        final int[] fish = new int[MAX_HOUSES];
        final int[] coins = new int[MAX_HOUSES];
        final int[] salted = new int[MAX_HOUSES];
        final int[] ate = new int[MAX_HOUSES];
        // NONE: the HOUSE gave its VOTES to nobody
        final int[] proxy = new int[MAX_HOUSES];
        int houses;
        int day;
        int salt;

        void begin(Town town) {
            houses = town.houses;
            day = 0;
            salt = town.salt;
            for (int i = 0; i < MAX_HOUSES; i++) {
                fish[i] = town.fish[i];
                coins[i] = town.coins[i];
                salted[i] = 0;
                ate[i] = 0;
                proxy[i] = NONE;
            }
        }

        void copy(State other) {
            System.arraycopy(other.fish, 0, fish, 0, MAX_HOUSES);
            System.arraycopy(other.coins, 0, coins, 0, MAX_HOUSES);
            System.arraycopy(other.salted, 0, salted, 0, MAX_HOUSES);
            System.arraycopy(other.ate, 0, ate, 0, MAX_HOUSES);
            System.arraycopy(other.proxy, 0, proxy, 0, MAX_HOUSES);
            houses = other.houses;
            day = other.day;
            salt = other.salt;
        }

        /** Into a row that has CELLS cells from a place on. */
        void write(int[] cells, int from) {
            System.arraycopy(fish, 0, cells, from, MAX_HOUSES);
            System.arraycopy(coins, 0, cells, from + MAX_HOUSES, MAX_HOUSES);
            System.arraycopy(salted, 0, cells, from + 2 * MAX_HOUSES, MAX_HOUSES);
            System.arraycopy(ate, 0, cells, from + 3 * MAX_HOUSES, MAX_HOUSES);
            System.arraycopy(proxy, 0, cells, from + 4 * MAX_HOUSES, MAX_HOUSES);
            cells[from + CELLS - 3] = houses;
            cells[from + CELLS - 2] = day;
            cells[from + CELLS - 1] = salt;
        }

        void take(int[] cells, int from) {
            System.arraycopy(cells, from, fish, 0, MAX_HOUSES);
            System.arraycopy(cells, from + MAX_HOUSES, coins, 0, MAX_HOUSES);
            System.arraycopy(cells, from + 2 * MAX_HOUSES, salted, 0, MAX_HOUSES);
            System.arraycopy(cells, from + 3 * MAX_HOUSES, ate, 0, MAX_HOUSES);
            System.arraycopy(cells, from + 4 * MAX_HOUSES, proxy, 0, MAX_HOUSES);
            houses = cells[from + CELLS - 3];
            day = cells[from + CELLS - 2];
            salt = cells[from + CELLS - 1];
        }

        int sum(int[] row) {
            int sum = 0;
            for (int i = 0; i < houses; i++) {
                sum += row[i];
            }
            return sum;
        }

        int allFish() {
            return sum(fish);
        }

        int fresh(int house) {
            return fish[house] - salted[house];
        }

        /** What is not salted goes first. */
        void consume(int house, int n) {
            fish[house] -= n;
            salted[house] = Math.min(salted[house], fish[house]);
            ate[house] += n;
        }

        void move(int from, int to, int n) {
            int saltedOnes = Math.max(0, n - fresh(from));
            fish[from] -= n;
            salted[from] -= saltedOnes;
            fish[to] += n;
            salted[to] += saltedOnes;
        }

        boolean hasProxy(int house) {
            boolean has = false;
            for (int i = 0; i < houses; i++) {
                has |= proxy[i] == house;
            }
            return has;
        }

        int fewestFish() {
            int best = 0;
            for (int i = 1; i < houses; i++) {
                best = fish[i] < fish[best] ? i : best;
            }
            return best;
        }
    }

    /** What can be undone, and the SLOTS. */
    private static final class Past {
        private static final int MOST = 40;
        private static final int SLOTS = 3;

        private final int[] rows = new int[MOST * State.CELLS];
        private final int[] slots = new int[SLOTS * State.CELLS];
        private final boolean[] held = new boolean[SLOTS];
        private int oldest;
        int size;

        void clear() {
            size = 0;
            for (int i = 0; i < SLOTS; i++) {
                held[i] = false;
            }
        }

        void keep(State state) {
            state.write(rows, rowOf(size) * State.CELLS);
            if (size < MOST) {
                size++;
            } else {
                oldest = rowOf(1);
            }
        }

        boolean bringBack(State state) {
            if (size < 1) {
                return false;
            }
            size--;
            state.take(rows, rowOf(size) * State.CELLS);
            return true;
        }

        private int rowOf(int n) {
            return (oldest + n) % MOST;
        }

        boolean store(int slot, State state) {
            if (slot < 0 || slot >= SLOTS) {
                return false;
            }
            state.write(slots, slot * State.CELLS);
            held[slot] = true;
            return true;
        }

        boolean fetch(int slot, State state) {
            if (slot < 0 || slot >= SLOTS || !held[slot]) {
                return false;
            }
            state.take(slots, slot * State.CELLS);
            size = 0;
            return true;
        }

        int slotsHeld() {
            int sum = 0;
            for (int i = 0; i < SLOTS; i++) {
                sum += held[i] ? 1 : 0;
            }
            return sum;
        }
    }

    /** What LAWS tell of a state, how DAYS go by, and what would be then. */
    private static final class Life {
        private final State later = new State();
        private final int[] eatenToday = new int[MAX_HOUSES];
        private final int[] caughtToday = new int[MAX_HOUSES];
        private final int[] rottenToday = new int[MAX_HOUSES];
        int bestDay;
        int bestValue;

        private static int within(int value, int least, int most) {
            return Math.max(least, Math.min(most, value));
        }

        int price(Town town, State state) {
            int[] vars = clearedVars(town, state, state.allFish());
            vars[Laws.ATE] = state.sum(state.ate);
            return within(town.laws.value(Laws.PRICE), 1, 99);
        }

        int eaten(Town town, State state, int house, int all) {
            int most = state.fish[house];
            if (most == 0) {
                return 0;
            }
            setVars(town, state, house, all);
            return within(town.laws.value(Laws.EATS), 0, most);
        }

        int rotten(Town town, State state, int house, int all) {
            int most = state.fresh(house);
            if (most == 0) {
                return 0;
            }
            setVars(town, state, house, all);
            return within(town.laws.value(Laws.ROTS), 0, most);
        }

        int caught(Town town, State state, int house, int all) {
            int[] vars = clearedVars(town, state, all);
            vars[Laws.FISH] = state.fish[house];
            vars[Laws.WHICH] = house;
            return within(town.laws.value(Laws.GLUT), 0, 99);
        }

        int votes(Town town, State state, int house, int all) {
            setVars(town, state, house, all);
            return within(town.laws.value(Laws.VOTES), 0, 999);
        }

        /** The VARS as they are for every LAW, those not told for it 0. */
        private static int[] clearedVars(Town town, State state, int all) {
            int[] vars = town.laws.vars;
            for (int i = 0; i < Laws.VARS; i++) {
                vars[i] = 0;
            }
            vars[Laws.ALL] = all;
            vars[Laws.DAY] = state.day;
            return vars;
        }

        private static void setVars(Town town, State state, int house, int all) {
            int[] vars = town.laws.vars;
            vars[Laws.FISH] = state.fish[house];
            vars[Laws.ALL] = all;
            vars[Laws.DAY] = state.day;
            vars[Laws.HUNGER] = town.hunger[house];
            vars[Laws.COINS] = state.coins[house];
            vars[Laws.FEAR] = town.fear[house];
            vars[Laws.SALTED] = state.salted[house];
            vars[Laws.ATE] = state.ate[house];
            vars[Laws.WHICH] = house;
        }

        boolean isGlut(Town town, int day, int seed) {
            return lot(100, seed, 4 * day) < town.odds;
        }

        private static int lot(int n, int seed, int which) {
            int hash = mixed(mixed(seed, 115), which);
            return n < 1 ? 0 : (hash >>> 1) % n;
        }

        private static int mixed(int hash, int with) {
            int product = (hash ^ with) * 1103515245 + 12345;
            return product ^ (product >>> 15);
        }

        void passMany(Town town, State state, int n, int seed) {
            for (int i = 0; i < n; i++) {
                passOne(town, state, seed);
            }
        }

        private void passOne(Town town, State state, int seed) {
            boolean glut = isGlut(town, state.day, seed);
            int all = state.allFish();
            for (int i = 0; i < town.houses; i++) {
                eatenToday[i] = eaten(town, state, i, all);
                caughtToday[i] = glut ? caught(town, state, i, all) : 0;
            }
            for (int i = 0; i < town.houses; i++) {
                state.consume(i, eatenToday[i]);
            }
            int left = state.allFish();
            for (int i = 0; i < town.houses; i++) {
                rottenToday[i] = rotten(town, state, i, left);
            }
            for (int i = 0; i < town.houses; i++) {
                int kept = state.fish[i] - rottenToday[i];
                state.fish[i] = Math.min(MAX_HELD, kept + caughtToday[i]);
            }
            state.day++;
        }

        /** The state behind n DAYS; it stands until the next look ahead. */
        State after(Town town, State state, int n, int seed) {
            later.copy(state);
            passMany(town, later, n, seed);
            return later;
        }

        void findBestSale(Town town, State state, int house, int n) {
            later.copy(state);
            bestValue = NONE;
            for (int day = 0; day <= n; day++) {
                passMany(town, later, day == 0 ? 0 : 1, town.seed);
                weigh(day, later.fish[house] * price(town, later));
            }
        }

        void findDearest(Town town, State state, int n) {
            later.copy(state);
            bestValue = NONE;
            for (int day = 0; day <= n; day++) {
                passMany(town, later, day == 0 ? 0 : 1, town.seed);
                weigh(day, price(town, later));
            }
        }

        private void weigh(int day, int value) {
            if (value > bestValue) {
                bestValue = value;
                bestDay = day;
            }
        }

        int leastSalting(Town town, State state, int house, int n) {
            int fresh = state.fresh(house);
            int aim = fishIfSalted(town, state, house, n, fresh);
            int most = Math.min(fresh, MAX_BY_HAND);
            for (int i = 0; i <= most; i++) {
                if (fishIfSalted(town, state, house, n, i) >= aim) {
                    return i;
                }
            }
            return NOT;
        }

        private int fishIfSalted(Town town, State state, int house, int n, int saltedNow) {
            later.copy(state);
            later.salted[house] += saltedNow;
            passMany(town, later, n, town.seed);
            return later.fish[house];
        }
    }

    /** VOTES, and what they do. */
    private static final class Council {
        private final Life life;
        // the VOTES that each HOUSE has, PROXIES counted
        final int[] had = new int[MAX_HOUSES];
        final int[] turns = new int[MAX_HOUSES];
        private final int[] sums = new int[1 << MAX_HOUSES];
        private int houses;
        int all;

        Council(Life life) {
            this.life = life;
        }

        void gather(Town town, State state) {
            houses = town.houses;
            all = 0;
            for (int i = 0; i < MAX_HOUSES; i++) {
                had[i] = 0;
            }
            int fish = state.allFish();
            for (int i = 0; i < houses; i++) {
                int own = life.votes(town, state, i, fish);
                int to = state.proxy[i];
                had[to >= 0 && to < houses ? to : i] += own;
                all += own;
            }
        }

        /** Behind gather: in how many sets each HOUSE turns the vote. */
        void countTurns() {
            int sets = 1 << houses;
            for (int i = 0; i < houses; i++) {
                turns[i] = 0;
            }
            for (int set = 0; set < sets; set++) {
                sums[set] = sum(had, set);
            }
            for (int set = 0; set < sets; set++) {
                for (int i = 0; i < houses && 2 * sums[set] <= all; i++) {
                    if (2 * sums[set | 1 << i] > all) {
                        turns[i]++;
                    }
                }
            }
        }

        int allTurns() {
            int sum = 0;
            for (int i = 0; i < houses; i++) {
                sum += turns[i];
            }
            return sum;
        }

        int mostTurns() {
            int best = 0;
            for (int i = 1; i < houses; i++) {
                best = turns[i] > turns[best] ? i : best;
            }
            return best;
        }

        int sum(int[] amounts, int set) {
            int sum = 0;
            for (int i = 0; i < MAX_HOUSES; i++) {
                sum += (set >> i & 1) == 0 ? 0 : amounts[i];
            }
            return sum;
        }

        /** The fewest HOUSES to be added to a set, so that it has more than half; NOT: not by all. */
        int fewestToMajority(int[] amounts, int set, int count) {
            int everyone = sum(amounts, (1 << count) - 1);
            int grown = set;
            for (int added = 0; added <= MAX_HOUSES; added++) {
                if (2 * sum(amounts, grown) > everyone) {
                    return added;
                }
                int largest = largestOutside(amounts, grown, count);
                if (largest == NONE) {
                    return NOT;
                }
                grown |= 1 << largest;
            }
            return NOT;
        }

        private int largestOutside(int[] amounts, int set, int count) {
            int best = NONE;
            for (int i = 0; i < count && i < MAX_HOUSES; i++) {
                boolean outside = (set >> i & 1) == 0;
                if (outside && (best == NONE || amounts[i] > amounts[best])) {
                    best = i;
                }
            }
            return best;
        }
    }

    /** Who eats in a PANIC, and what is TOLD of one. */
    private static final class Panics {
        private static final int MOST_CALMED = 3;

        private final int[] toldHouses = new int[MAX_TOLD];
        private final boolean[] toldAte = new boolean[MAX_TOLD];
        int told;

        /** Bits: who eats in the end, if the calmed ones do not, whatever they hear. */
        int eaters(Town town, int beginner, int calmed) {
            int eating = 1 << beginner;
            for (int round = 0; round < town.houses; round++) {
                for (int i = 0; i < town.houses; i++) {
                    boolean free = (calmed >> i & 1) == 0;
                    if (free && Integer.bitCount(town.heard[i] & eating) >= town.fear[i]) {
                        eating |= 1 << i;
                    }
                }
            }
            return eating;
        }

        private boolean eatsIn(Town town, int beginner, int calmed, int house) {
            return (eaters(town, beginner, calmed) >> house & 1) == 1;
        }

        int widest(Town town) {
            int best = 0;
            int most = 0;
            for (int i = 0; i < town.houses; i++) {
                int size = Integer.bitCount(eaters(town, i, 0));
                if (size > most) {
                    most = size;
                    best = i;
                }
            }
            return best;
        }

        /** Bits of the CALM ones; NOT: three are not enough. */
        int fewestCalmed(Town town, int beginner, int kept) {
            int best = NOT;
            int both = 1 << beginner | 1 << kept;
            for (int set = 0; set < 1 << town.houses; set++) {
                boolean allowed = (set & both) == 0 && Integer.bitCount(set) <= MOST_CALMED;
                if (allowed && (best == NOT || isAhead(set, best))
                        && !eatsIn(town, beginner, set, kept)) {
                    best = set;
                }
            }
            return best;
        }

        /** Fewer, or as many and the first in which they differ is the set's own. */
        private static boolean isAhead(int set, int other) {
            int size = Integer.bitCount(set);
            int otherSize = Integer.bitCount(other);
            int differing = set ^ other;
            int first = differing & -differing;
            return size < otherSize || size == otherSize && (set & first) != 0;
        }

        /** The i-th HOUSE of a set, NONE if it has not so many. */
        int member(int set, int i) {
            int seen = 0;
            for (int house = 0; house < MAX_HOUSES; house++) {
                if ((set >> house & 1) == 1) {
                    if (seen == i) {
                        return house;
                    }
                    seen++;
                }
            }
            return NONE;
        }

        int quietFor(Town town, int house) {
            int quiet = 0;
            for (int i = 0; i < town.houses; i++) {
                quiet |= eatsIn(town, i, 0, house) ? 0 : 1 << i;
            }
            return quiet;
        }

        /** The number of what is TOLD, NONE without room. */
        int note(int house, boolean ate) {
            if (told < 0 || told >= MAX_TOLD) {
                return NONE;
            }
            toldHouses[told] = house;
            toldAte[told] = ate;
            told++;
            return told - 1;
        }

        /** Bits: by whom it may have begun, as KNOWN by k. */
        int suspects(Town town, int k) {
            int suspects = 0;
            for (int i = 0; i < town.houses; i++) {
                suspects |= fits(eaters(town, i, 0), k) ? 1 << i : 0;
            }
            return suspects;
        }

        private boolean fits(int eaters, int k) {
            boolean fits = true;
            for (int i = 0; i < k && i < MAX_TOLD; i++) {
                fits &= (eaters >> toldHouses[i] & 1) == 1 == toldAte[i];
            }
            return fits;
        }

        int bestQuestion(Town town, int suspects) {
            int best = NONE;
            int fewest = 0;
            for (int i = 0; i < town.houses; i++) {
                int silent = Integer.bitCount(suspects & quietFor(town, i));
                int left = Math.max(silent, Integer.bitCount(suspects) - silent);
                if (best == NONE || left < fewest) {
                    best = i;
                    fewest = left;
                }
            }
            return best;
        }
    }
}
