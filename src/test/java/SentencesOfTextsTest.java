import java.util.function.Consumer;

/** 'Terms', I: each sentence that bounds a TEXT, its TOKENS, its TELLS or its FAULTS has a method of its own. */
public final class SentencesOfTextsTest {
    private static final Due DUE = new Due();
    private static final String TWO = "house a 1 1 1 1;house b 1 1 1 1;";
    private static final String IF = "if 2<1 then 3 else ";

    public static void main(String[] args) {
        textOf2000Bytes();
        blanks();
        longestTokens();
        namesOfLettersAToZ();
        namesOf8Letters();
        namesAreNoWords();
        intsOfFourDigits();
        signs();
        longerOnesAreNoTokens();
        textOfNoTells();
        eachTextAnew();
        sevenHouses();
        numbersOfHouses();
        sixteenHears();
        fiveMotions();
        numberedFrom0();
        othersAreAgainst();
        untoldLaws();
        lastLaws();
        salt();
        odds();
        seed();
        firstFaultByPlace();
        faultAtTheTextsEnd();
        leastFaultOfOnePlace();
        syntax();
        room401stToken();
        roomOfASortAtItsFirstToken();
        roomOfA5thIf();
        roomOfA7thParenthesis();
        otherFaultsOnlyIfThereIsNone();
        twiceANameOfAllTogether();
        twiceHearsOfItself();
        twiceHearsOfOneAlready();
        twiceForAMotion();
        noSuchHouseToldAhead();
        aNameToldMoreThanOnce();
        wrongNumbers();
        aFaultChangesNothingButTheTape();
        aTextInPlaceOfTheOneAhead();
        DUE.end();
    }

    /** A '#' in the text marks the place and is not of it; without one there is no FAULT. */
    private static HerringShares fault(int number, String marked) {
        HerringShares x = new HerringShares();
        Due.put(x, marked.replace("#", ""));
        int end = marked.length();
        String shown = end < 120 ? marked : marked.substring(0, 60) + " .. " + marked.substring(end - 60);
        DUE.is("read of " + shown, number, x.read());
        DUE.is("place of " + shown, marked.indexOf('#'), x.place());
        return x;
    }

    private static HerringShares fine(String text) {
        return fault(0, text);
    }

    private static void textOf2000Bytes() {
        DUE.about("A TEXT has 2,000 bytes at most");
        HerringShares x = new HerringShares();
        Due.put(x, "salt 7;" + " ".repeat(1986) + "seed 8;");
        DUE.is("2,000 bytes", 2000, x.count(8));
        DUE.is("one feed more", -1, x.feed(0, 0, 0, 0, 0));
        DUE.is("read", 0, x.read());
        DUE.is("its first TELL", 7, x.count(7));
        x = new HerringShares();
        Due.put(x, " ".repeat(1993) + "salt 7;");
        DUE.is("read of a TELL at the end", 0, x.read());
        DUE.is("its last TELL", 7, x.count(7));
        fault(1, " ".repeat(1999) + "#a");
        fault(1, " ".repeat(1996) + "salt#");
    }

    private static void blanks() {
        DUE.about("with blanks (9, 10, 13, 32) between or not");
        for (int sign = 0; sign < 256; sign++) {
            boolean blank = sign == 9 || sign == 10 || sign == 13 || sign == 32;
            String between = "" + (char) sign;
            if (blank) {
                DUE.is("SALT", 5, fine(between + "salt" + between + "5" + between + between + ";" + between).count(7));
            } else if (sign != '#') {
                fault(1, "salt 5;#" + between);
            }
        }
        DUE.is("without any", 5, fine("seed1;salt5;odds2;").count(7));
        DUE.is("NAMES behind other ones", 2, fine("house\ta 1 1 1 1;house\nb\r1 1 1 1;hears a\tb;hears\rb\na;").count(1));
        fault(3, "house\ta 1 1 1 1;house\n#a 1 1 1 1;");
        DUE.is("a NAME and an INT", 21, fine("house ann21 3 4 5;").house(0, 0));
        fine("price=if(1)<2then 3else(4);");
    }

    private static void longestTokens() {
        DUE.about("TOKENS, the longest that can be");
        fault(1, "#housea 1 1 1 1;");
        fault(1, "#saltsalt 5;");
        fault(1, "price = #fishy;");
        fine("house fishy 1 1 1 1;");
        DUE.is("one INT of two digits", 12, fine("salt 12;").count(7));
        fault(1, "salt 1 #2;");
        DUE.is("one NAME of two letters", 1, fine("house ab 1 1 1 1;").count(0));
    }

    private static void namesOfLettersAToZ() {
        DUE.about("NAMES (letters a .. z)");
        for (int sign = 33; sign < 256; sign++) {
            if (sign >= 'a' && sign <= 'z') {
                fine("house " + (char) sign + " 1 1 1 1;");
                fine("house q" + (char) sign + "q 1 1 1 1;");
            } else if (sign != '#') {
                fault(1, "house #" + (char) sign + " 1 1 1 1;");
                boolean digit = sign >= '0' && sign <= '9';
                fault(1, digit ? "house q1 #q 1 1 1;" : "house q#" + (char) sign + " 1 1 1 1;");
            }
        }
    }

    private static void namesOf8Letters() {
        DUE.about("NAMES .. 8 at most");
        fine("house a 1 1 1 1;house abcdefgh 1 1 1 1;hears a abcdefgh;");
        fault(1, "house #abcdefghi 1 1 1 1;");
        fault(1, "house #aaaaaaaaaaaaaaaaaaaaaaaaaaaaaaaa 1 1 1 1;");
        // as many letters as a name may have, and only the last one another
        fine("house abcdefgh 1 1 1 1;house abcdefgi 1 1 1 1;hears abcdefgh abcdefgi;");
    }

    private static void namesAreNoWords() {
        DUE.about("NAMES .. none of the words in quotes");
        String[] words = {"house", "hears", "motion", "price", "eats", "glut", "votes", "rots", "salt", "odds", "seed",
            "if", "then", "else", "fish", "all", "day", "hunger", "coins", "fear", "salted", "ate", "which"};
        for (String word : words) {
            fault(1, "house #" + word + " 1 1 1 1;");
            fault(1, "motion #" + word + ";");
            fault(1, TWO + "hears a #" + word + ";");
            fine("house " + word + "z 1 1 1 1;");
            fine("house z" + word + " 1 1 1 1;");
            if (word.length() > 3) {
                fine("house " + word.substring(1) + " 1 1 1 1;");
                fine("house " + (word.equals("salted") ? "salte" : word.substring(0, word.length() - 1)) + " 1 1 1 1;");
            }
        }
        fine("house name 1 1 1 1;house int 1 1 1 1;house law 1 1 1 1;house text 1 1 1 1;house tell 1 1 1 1;");
    }

    private static void intsOfFourDigits() {
        DUE.about("INTS (1 to 4 digits)");
        for (int digit = 0; digit < 10; digit++) {
            DUE.is("SALT", digit, fine("salt " + digit + ";").count(7));
        }
        DUE.is("four digits", 999, fine("salt 0999;").count(7));
        DUE.is("four digits", 0, fine("salt 0000;").count(7));
        fault(1, "salt #00000;");
        fault(1, "salt #00005;");
        fault(1, "price = #10000;");
        fault(1, "salt #:;");
    }

    private static void signs() {
        DUE.about("SIGNS ; = + - * / < ( )");
        for (int sign = 33; sign < 256; sign++) {
            boolean joins = sign == '+' || sign == '-' || sign == '*' || sign == '/';
            if (joins) {
                fine("price = 9 " + (char) sign + " 3;");
            } else if (sign != '#' && sign != ';') {
                fault(1, "price = 9 #" + (char) sign + " 3;");
            }
        }
        fine("price = 9 ;");
        fine("price=if(9)<3then 1else 2;");
        fault(1, "salt 5#.");
        fault(1, "salt 5;#.");
    }

    private static void longerOnesAreNoTokens() {
        DUE.about("A longer one, all else, is no TOKEN");
        fault(1, "salt 5;house #abcdefghijklmnopqrstuvwxyz 1 1 1 1;");
        fault(1, "salt #123456789123456789123456789;");
        fault(1, "price = 1 + #12345;");
        fault(1, "#abcdefghi");
        fault(1, "salt 5;#00000");
        fault(1, "salt 5;#" + (char) 0);
        fault(1, "salt 5;#" + (char) 255);
    }

    private static void textOfNoTells() {
        DUE.about("text: {TELL}");
        DUE.is("no TELL", 20, fine("").count(7));
        fine("  ");
        DUE.is("one", 3, fine("salt 3;").count(7));
        DUE.is("as many as there are TOKENS for", 4, fine("salt 3;".repeat(132) + "salt 4;").count(7));
        fault(1, "#;");
    }

    /** The same object reads on: what texts ahead told counts for nothing. */
    private static void readAgain(HerringShares x, String text, int times) {
        for (int i = 0; i < times; i++) {
            Due.put(x, text);
            DUE.is("read of " + text, 0, x.read());
        }
    }

    private static void eachTextAnew() {
        DUE.about("LAWS, SALT, ODDS, SEED if not told: whatever texts ahead told");
        HerringShares x = new HerringShares();
        for (int times = 1; times <= 2; times++) {
            readAgain(x, "salt 7;odds 100;seed " + Sentence.seedOfLot(99) + ";price=3;", 2);
            DUE.is("a glut", 1, x.count(13));
            readAgain(x, "", times);
            DUE.is("SALT", 20, x.count(7));
            DUE.is("PRICE", 10, x.tells(0, 0));
            DUE.is("ODDS 0: no glut", 0, x.count(13));
            readAgain(x, "odds " + Sentence.lot(100, 0, 0) + ";", times);
            DUE.is("the LOT of SEED 0 is not less", 0, x.count(13));
            readAgain(x, "odds " + (Sentence.lot(100, 0, 0) + 1) + ";", times);
            DUE.is("the LOT of SEED 0 is less", 1, x.count(13));
        }
        readAgain(x, someHouses(7) + someHears(16) + "motion ma;motion mb;motion mc;motion md;motion me;", 3);
        DUE.is("HEARS", 16, x.count(1));
        readAgain(x, someHouses(7), 2);
        DUE.is("of whom it hears", 0, x.house(0, 9));
        DUE.is("MOTIONS", 0, x.count(2));
        fewerHousesThanAhead();
    }

    private static void fewerHousesThanAhead() {
        HerringShares x = new HerringShares();
        String many = Sentence.houses("999 9 1", 99, 99, 99, 99, 99, 99, 99) + "hears c a;hears a c;hears b g;eats=1;";
        readAgain(x, many, 2);
        x.days(3);
        x.salts(2, 5);
        x.proxy(2, 0);
        x.hold(0);
        String[] texts = {Sentence.houses("40 2 1", 1, 3, 3, 3) + "price=1;",
            Sentence.houses("40 2 1", 3, 4) + "hears b a;rots=1;", Sentence.houses("40 2 1", 0, 0),
            Sentence.houses("40 2 0", 0), ""};
        for (String text : texts) {
            readAgain(x, text, 1);
            HerringShares fresh = fine(text);
            DUE.is("all is as in a new object", true, Sentence.same(Sentence.all(fresh), x));
            DUE.is("what would be, too", true, Sentence.wouldBe(fresh).equals(Sentence.wouldBe(x)));
        }
    }

    private static String someHouses(int n) {
        return Sentence.houses("1 1 1", new int[n]);
    }

    private static void sevenHouses() {
        DUE.about("HOUSES, 7 at most");
        DUE.is("HOUSES", 7, fine(someHouses(7)).count(0));
        fault(2, someHouses(7) + "#house h 1 1 1 1;");
        DUE.is("the seventh one", 9, fine(someHouses(6) + "house g 9 1 1 1;").house(6, 0));
    }

    private static void numbersOfHouses() {
        DUE.about("FISH 0 .. 99, COINS 0 .. 999, HUNGER, FEAR 0 .. 9 each");
        int[][] rows = {{0, 0, 0, 0}, {99, 999, 9, 9}};
        for (int[] row : rows) {
            HerringShares x = fine("house a " + row[0] + " " + row[1] + " " + row[2] + " " + row[3] + ";");
            for (int what = 0; what < 4; what++) {
                DUE.is("house(0, " + what + ")", row[what], x.house(0, what));
            }
        }
        fault(5, "house a #100 0 0 0;");
        fault(5, "house a 0 #1000 0 0;");
        fault(5, "house a 0 0 #10 0;");
        fault(5, "house a 0 0 0 #10;");
        fault(5, "house a #9999 9999 9999 9999;");
    }

    private static String someHears(int n) {
        StringBuilder text = new StringBuilder();
        for (int i = 0; i < n; i++) {
            text.append("hears ").append((char) ('a' + i / 6)).append(' ');
            text.append((char) ('a' + (i / 6 + 1 + i % 6) % 7)).append(';');
        }
        return text.toString();
    }

    private static void sixteenHears() {
        DUE.about("HEARS, 16 at most (the first HOUSE hears of the second one)");
        HerringShares x = fine(someHouses(7) + someHears(16));
        DUE.is("HEARS", 16, x.count(1));
        DUE.is("a hears of all others", 126, x.house(0, 9));
        DUE.is("c of four", 8 + 16 + 32 + 64, x.house(2, 9));
        DUE.is("d of nobody", 0, x.house(3, 9));
        fault(2, someHouses(7) + someHears(16) + "#hears g a;");
    }

    private static void fiveMotions() {
        DUE.about("MOTIONS, 5 at most");
        String five = "motion ma;motion mb;motion mc;motion md;motion me;";
        DUE.is("MOTIONS", 5, fine(five).count(2));
        fault(2, five + "#motion mf;");
        HerringShares x = fine(someHouses(7) + five + "salt 5;");
        DUE.is("the fifth one", 0, x.motion(4, 0));
        DUE.is("all HOUSES are for one", 7, fine(Sentence.houses("1 1 1", 1, 1, 1, 1, 1, 1, 1)
                + "motion m a b c d e f g;").motion(0, 1));
    }

    private static void numberedFrom0() {
        DUE.about("numbered each from 0 on as they stand");
        HerringShares x = fine("motion ma;house b 11 1 1 1;motion mb b;house a 12 1 1 1;hears a b;motion mc a;");
        DUE.is("the first HOUSE", 11, x.house(0, 0));
        DUE.is("the second one", 12, x.house(1, 0));
        DUE.is("VOTES for the first MOTION", 0, x.motion(0, 1));
        DUE.is("for the second one", 11, x.motion(1, 1));
        DUE.is("for the third one", 12, x.motion(2, 1));
        DUE.is("of whom the second one hears", 1, x.house(1, 9));
    }

    private static void othersAreAgainst() {
        DUE.about("the HOUSES told ahead that are for it; all others are against it");
        HerringShares x = fine("house a 5 1 1 1;motion ma a;motion mb;house b 4 1 1 1;house c 2 1 1 1;");
        DUE.is("5 for it, 6 against", 0, x.motion(0, 0));
        DUE.is("one more carries it", 1, x.motion(0, 2));
        DUE.is("nobody for it", 0, x.motion(1, 1));
    }

    private static void untoldLaws() {
        DUE.about("PRICE (10), EATS (0), GLUT (5), VOTES (fish), ROTS (0), if not told");
        HerringShares x = fine("house a 33 1 7 1;");
        DUE.is("PRICE", 10, x.tells(0, 0));
        DUE.is("EATS", 0, x.tells(0, 1));
        DUE.is("ROTS", 0, x.tells(0, 2));
        DUE.is("GLUT", 5, x.tells(0, 3));
        DUE.is("VOTES", 33, x.house(0, 7));
        x.eat(0, 3);
        DUE.is("VOTES", 30, x.house(0, 7));
        // the LAWS of a text ahead are not told by this one
        Due.put(x, "house a 9 1 1 1;price=1;eats=2;glut=3;votes=4;rots=6;");
        DUE.is("read", 0, x.read());
        Due.put(x, "house a 8 1 1 1;");
        DUE.is("read", 0, x.read());
        int[] want = {10, 0, 0, 5};
        for (int what = 0; what < 4; what++) {
            DUE.is("tells(0, " + what + ")", want[what], x.tells(0, what));
        }
        DUE.is("VOTES", 8, x.house(0, 7));
    }

    private static void lastLaws() {
        DUE.about("LAWS: the last one");
        HerringShares x = fine("house a 33 1 7 1;price=1;eats=2;glut=3;votes=4;rots=5;"
                + "price=if 1<2 then 11 else 0;eats=12;glut=13;votes=14;rots=15;");
        int[] want = {11, 12, 15, 13};
        for (int what = 0; what < 4; what++) {
            DUE.is("tells(0, " + what + ")", want[what], x.tells(0, what));
        }
        DUE.is("VOTES", 14, x.house(0, 7));
    }

    private static void salt() {
        DUE.about("SALT 0 .. 999 (20): the last one");
        DUE.is("not told", 20, fine("").count(7));
        DUE.is("least", 0, fine("salt 0;").count(7));
        DUE.is("most", 999, fine("salt 999;").count(7));
        DUE.is("the last one", 4, fine("salt 999;salt 3;salt 4;").count(7));
        fault(5, "salt #1000;");
        fault(5, "salt 5;salt #9999;salt 5;");
    }

    private static void odds() {
        DUE.about("ODDS of a glut 0 .. 100 (0): the last one");
        DUE.is("not told: no glut", 0, fine("seed " + Sentence.seedOfLot(0) + ";").count(13));
        DUE.is("0: no glut", 0, fine("odds 0;seed " + Sentence.seedOfLot(0) + ";").count(13));
        DUE.is("1", 1, fine("odds 1;seed " + Sentence.seedOfLot(0) + ";").count(13));
        DUE.is("99", 0, fine("odds 99;seed " + Sentence.seedOfLot(99) + ";").count(13));
        DUE.is("100: a glut", 1, fine("odds 100;seed " + Sentence.seedOfLot(99) + ";").count(13));
        DUE.is("the last one", 0, fine("odds 100;odds 0;").count(13));
        DUE.is("the last one", 1, fine("odds 0;odds 100;").count(13));
        fault(5, "odds #101;");
        fault(5, "odds #9999;");
    }

    private static void glutsBySeed(String text, int seed) {
        HerringShares x = fine(text);
        for (int day = 0; day < 20; day++) {
            DUE.is(text + " a glut on day " + day, Sentence.lot(100, seed, 4 * day) < 50, x.count(13) == 1);
            x.days(1);
        }
    }

    private static void seed() {
        DUE.about("SEED 0 .. 9999 (0): the last one");
        glutsBySeed("odds 50;", 0);
        glutsBySeed("odds 50;seed 0;", 0);
        glutsBySeed("odds 50;seed 9999;", 9999);
        glutsBySeed("odds 50;seed 3;seed 4;", 4);
        fault(1, "seed #10000;");
    }

    private static void firstFaultByPlace() {
        DUE.about("FAULTS of a text, the first by its place");
        fault(1, "#x x");
        fault(1, "#x" + someHouses(8));
        fault(2, someHouses(7) + "#house x 1 1 1 1;x");
        fault(2, "price=" + "(".repeat(6) + "#((");
        fault(5, "salt #1000;house a 100 1 1 1;");
        fault(4, "hears #x y;salt 1000;");
        fault(3, TWO + "house #a 100 1 1 1;hears x x;");
        fault(5, TWO + "odds #101;house a 1 1 1 1;");
    }

    private static void faultAtTheTextsEnd() {
        DUE.about("the text's end: its length");
        String[] begun = {"house", "house a", "house a 1", "house a 1 1", "house a 1 1 1", "house a 1 1 1 1", "hears",
            "hears a", "hears a b", "motion", "motion m", "motion m a", "price", "price=", "price=1", "price=1+",
            "price=(", "price=(1", "price=if", "price=if 1", "price=if 1<", "price=if 1<2", "price=if 1<2then",
            "price=if 1<2then 3", "price=if 1<2then 3else", "salt", "salt 1", "odds", "seed"};
        for (String text : begun) {
            fault(1, text + "#");
            fault(1, "salt 5; " + text + " \n\t#");
        }
    }

    private static void leastFaultOfOnePlace() {
        DUE.about("of one place the least");
        // 400 TOKENS, each fine; the next one has no room, and no text goes on with it
        String full = "salt 1;".repeat(133) + "seed ";
        fault(2, full + "#1");
        fault(1, full + "#;");
        fault(1, full + "#a");
        fault(1, full + "#12345");
        fault(1, full + "#?");
        fault(1, full + "#");
    }

    private static void syntax() {
        DUE.about("SYNTAX: a TOKEN, or what is none, with which no text goes on");
        String[] marked = {"#a", "#1", "#;", "#=", "#if", "#fish", "#then", "house #1", "house a #a", "house a 1 1 1 #;",
            "house a 1 1 1 1 #1", "hears #1", "hears a #;", "hears a b #c", "motion #;", "motion m #1", "motion m a #all",
            "price #1", "price = #;", "price = #+", "price = #-1", "price = 1 #1", "price = 1 + #;", "price = (#)",
            "price = (1#;", "price = 1#)", "price = 1 #< 2", "price = 1 #then", "price = 1 #if", "price = 1 #else",
            "price = if #if", "price = if 1 #;", "price = if 1 #then", "price = if 1 < #<", "price = if 1 < 2 #;",
            "price = if 1 < 2 #else", "price = if 1 < 2 then #if", "price = if 1 < 2 then 3 #;",
            "price = if 1 < 2 then 3 else #;", "price = (#if", "price = #a", "price = #house", "salt #;", "salt #fish",
            "salt #(", "salt 1 #1", "odds #a", "seed #-1", "price = 1;price #2", "price = 1 / #/"};
        for (String text : marked) {
            fault(1, text);
        }
    }

    private static void room401stToken() {
        DUE.about("ROOM: a 401st TOKEN");
        String most = "price=1" + "+1".repeat(198) + ";";
        DUE.is("400 TOKENS", 99, fine(most).tells(0, 0));
        fault(2, most + "#salt 5;");
        fault(2, "price=1" + "+1".repeat(198) + "+#1;");
        fault(2, "salt 1;".repeat(133) + "salt #1;");
        fault(2, "price=(1)" + "+1".repeat(196) + "+1+#1;");
        fault(2, "price=(1" + "+1".repeat(198) + "#);");
        fault(2, someHouses(7) + "motion ma;price=1" + "+1".repeat(172) + "+#1;");
        fault(2, "price=" + "1*(".repeat(5) + "1" + "+1".repeat(190) + "))#)");
    }

    private static void roomOfASortAtItsFirstToken() {
        DUE.about("one more of a sort than told (at its first TOKEN)");
        fault(2, someHouses(7) + "salt 5; #house");
        fault(2, someHouses(7) + "#house 5");
        fault(2, someHouses(7) + someHears(16) + " #hears");
        fault(2, someHouses(7) + someHears(16) + " #hears x");
        String five = "motion ma;motion mb;motion mc;motion md;motion me;";
        fault(2, five + "#motion");
        fault(2, five + "#motion;");
        fine(someHouses(7) + someHears(16) + five + "price=1;price=2;price=3;price=4;salt 1;salt 2;odds 1;odds 2;");
    }

    private static void roomOfA5thIf() {
        DUE.about("a 5th if of a LAW (at it)");
        fine("price=" + IF.repeat(4) + "7;eats=" + IF.repeat(4) + "7;");
        fine("price=" + IF.repeat(4) + "7;price=" + IF.repeat(4) + "7;");
        fault(2, "price=" + IF.repeat(4) + "#" + IF + "7;");
        fault(2, "price=" + IF.repeat(4) + "#if");
        fault(2, "rots=" + IF.repeat(4) + "#if;");
        DUE.is("the last one of four", 7, fine("price=" + IF.repeat(3) + "if 1<2 then 7 else 8;").tells(0, 0));
    }

    private static void roomOfA7thParenthesis() {
        DUE.about("a 7th ( within one another (at it)");
        String six = "(".repeat(6) + "7" + ")".repeat(6);
        DUE.is("six", 7, fine("price=" + six + ";").tells(0, 0));
        DUE.is("six behind six", 14, fine("price=" + six + "+" + six + ";").tells(0, 0));
        DUE.is("six by six", 49, fine("price=" + six + "*" + six + ";").tells(0, 0));
        String seven = "(".repeat(6) + "#(7" + ")".repeat(7);
        fault(2, "price=" + seven + ";");
        fault(2, "price=" + six + "+" + seven + ";");
        fault(2, "price=" + six + "*" + seven + ";");
        fault(2, "price=if " + seven + "<1 then 1 else 1;");
        fault(2, "price=if 1<" + seven + " then 1 else 1;");
        fault(2, "price=if 1<1 then " + seven + " else 1;");
        fault(2, "price=if 1<1 then 1 else " + seven + ";");
        fault(2, "price=" + "1+(2*".repeat(6) + "#(");
        // as much as a LAW can have: four ifs, six ( within one another on each side, a sum and a product in each
        String deep = "1+2*(".repeat(6) + "1+2*3" + ")".repeat(6);
        String not = "if " + deep + "<" + deep + " then 1 else ";
        DUE.is("the last one behind four ifs", 51, fine("price=" + not.repeat(4) + deep + "-460;").tells(0, 0));
        DUE.is("more than six, not within one another", 7, fine("price=" + "(1)+".repeat(6) + "(1);").tells(0, 0));
    }

    private static void otherFaultsOnlyIfThereIsNone() {
        DUE.about("If there is none, likewise");
        fault(1, TWO + "house a 100 1 1 1;hears x a;#x");
        fault(1, "salt 1000;hears x y#");
        fault(2, "salt 1000;" + someHouses(7) + "hears a a;#house");
        fault(2, "house a 100 1 1 1;price=" + "(".repeat(6) + "#(");
        fault(2, "hears x y;price=" + IF.repeat(4) + "#if");
        fault(2, "salt 1000;" + "salt 1;".repeat(132) + "salt #1;");
    }

    private static void twiceANameOfAllTogether() {
        DUE.about("TWICE: a NAME told already (all together)");
        fault(3, "house a 1 1 1 1;house #a 1 1 1 1;");
        fault(3, "motion a;motion #a;");
        fault(3, "house a 1 1 1 1;motion #a;");
        fault(3, "motion a;house #a 1 1 1 1;");
        fault(3, "house a 1 1 1 1;motion #a a;");
        fault(3, someHouses(6) + "house #f 1 1 1 1;");
        fault(3, "motion ma;motion mb;motion mc;motion md;motion #md;");
        fine("house a 1 1 1 1;house aa 1 1 1 1;motion aaa;motion b;");
    }

    private static void twiceHearsOfItself() {
        DUE.about("(at the second NAME) a HOUSE that hears of itself");
        fault(3, TWO + "hears a #a;");
        fault(3, TWO + "hears b #b;");
        fine(TWO + "hears a b;hears b a;");
    }

    private static void twiceHearsOfOneAlready() {
        DUE.about("(at the second NAME) .. or of one that it hears of already");
        fault(3, TWO + "hears a b;hears a #b;");
        fault(3, TWO + "house c 1 1 1 1;hears a b;hears a c;hears b a;hears a #b;");
        // the other way round is not the same
        DUE.is("HEARS", 2, fine(TWO + "hears a b;hears b a;").count(1));
    }

    private static void twiceForAMotion() {
        DUE.about("(at it) a HOUSE that is for a MOTION twice");
        fault(3, TWO + "motion m a #a;");
        fault(3, TWO + "motion m a b #a b;");
        fault(3, TWO + "motion ma b;motion mb b a #b;");
        fine(TWO + "motion ma a b;motion mb b a;");
    }

    private static void noSuchHouseToldAhead() {
        DUE.about("NAME: (at it) no such HOUSE told ahead");
        fault(4, "hears #a b;" + TWO);
        fault(4, "house a 1 1 1 1;hears a #b;house b 1 1 1 1;");
        fault(4, TWO + "hears #x a;");
        fault(4, TWO + "hears a #x;");
        fault(4, TWO + "hears #x x;");
        fault(4, TWO + "motion m #x;");
        fault(4, TWO + "motion m a #x x;");
        fault(4, "motion m #a;" + TWO);
        fault(4, TWO + "motion m #m;");
        fault(4, TWO + "motion m;hears a #m;");
        fault(4, TWO + "hears a #bb;");
        fault(4, "house bb 1 1 1 1;house a 1 1 1 1;hears a #b;");
    }

    private static void aNameToldMoreThanOnce() {
        DUE.about("a NAME told more than once is that of the first one");
        // what stands behind the second one is a FAULT behind that of TWICE, whoever it is
        fault(3, "house a 1 1 1 1;house b 1 1 1 1;house #a 1 1 1 1;hears a a;");
        fault(3, "motion a;house #a 1 1 1 1;house b 1 1 1 1;hears b a;");
        fault(3, "house a 1 1 1 1;motion #a a;hears a a;");
    }

    private static void wrongNumbers() {
        DUE.about("WRONG (at the INT): a number not as told above");
        fault(5, "house a #100 1000 10 10;");
        fault(5, "house a 99 #1000 10 10;");
        fault(5, "house a 99 999 #10 10;");
        fault(5, "house a 99 999 9 #10;");
        fault(5, "house a 1 1 1 1; house b 1 1 1   #0010;");
        fault(5, "salt #1000;");
        fault(5, "odds #101;");
        // the INTS of a LAW are no such numbers
        DUE.is("PRICE", 99, fine("price=9999;").tells(0, 0));
        fine("house a 0099 0999 0009 0009;salt 0999;odds 0100;seed 9999;");
    }

    private static void aFaultChangesNothingButTheTape() {
        DUE.about("A text with a FAULT changes nothing but the tape");
        HerringShares x = fine("house a 9 90 7 1;house b 8 80 6 2;hears a b;motion m a;price=3;eats=1;glut=2;votes=fish+1;"
                + "rots=1;salt 9;odds 100;seed 5;");
        x.salts(0, 3);
        x.days(1);
        x.proxy(0, 1);
        x.eat(0, 1);
        x.tell(0, true);
        x.hold(1);
        String was = Sentence.all(x);
        String told = "house c 1 1 1 1;house d 2 2 2 2;hears c d;motion n d;price=7;eats=4;glut=6;votes=1;rots=0;salt 1;odds 0;";
        String[] faults = {"x", "price=((((((((1", "house c 1 1 1 1;", "hears c x;", "odds 101;"};
        for (int i = 0; i < faults.length; i++) {
            Due.put(x, told + faults[i]);
            DUE.is("read", i + 1, x.read());
            DUE.is("the tape is empty, all else is as it was", true, Sentence.same(was, x));
        }
        DUE.is("can be undone", true, x.undo());
        DUE.is("FISH", 9 - 1 - 1 + 2, x.house(0, 0));
        DUE.is("is held", true, x.restore(1));
        DUE.is("FISH", 8, x.house(0, 0));
    }

    private static void aTextInPlaceOfTheOneAhead() {
        DUE.about("else it is in place of the one ahead: day 0, all as told, nothing eaten or salted ..");
        String text = "house a 9 90 7 1;house b 8 80 6 2;hears a b;motion m a;price=3;eats=1;rots=1;salt 9;";
        String began = Sentence.all(fine(text));
        Consumer<HerringShares> live = x -> {
            x.salts(0, 3);
            x.days(2);
            x.proxy(0, 1);
            x.buy(1, 0, 1);
            x.tell(0, true);
            x.tell(1, true);
            x.hold(0);
            x.hold(2);
        };
        HerringShares x = fine(text);
        live.accept(x);
        DUE.is("day", 2, x.count(3));
        Due.put(x, text);
        DUE.is("read again", 0, x.read());
        DUE.is("all as told", true, Sentence.same(began, x));
        DUE.is("nothing can be undone", false, x.undo());
        DUE.is("nothing is TOLD", 0, x.forget());
        for (int slot = 0; slot < 3; slot++) {
            DUE.is("SLOTS hold nothing", false, x.restore(slot));
        }
        live.accept(x);
        DUE.is("an empty text", 0, x.read());
        DUE.is("no HOUSES", true, Sentence.same(Sentence.all(new HerringShares()), x));
        DUE.is("nothing can be undone", false, x.undo());
    }
}
