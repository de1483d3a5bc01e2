/** Promises 4 and 5: the FAULTS of texts, and where they are. */
public final class FaultsTest {
    private static final Due DUE = new Due();
    private static final String TWO = "house a 1 1 1 1;house b 1 1 1 1;";

    public static void main(String[] args) {
        tokens();
        syntax();
        ends();
        room();
        tokenRoom();
        twice();
        names();
        numbers();
        firstByPlace();
        whatAFaultLeaves();
        DUE.end();
    }

    /** A '#' in the text marks the place and is not of it; without one there is no FAULT. */
    private static void fault(int number, String marked) {
        int place = marked.indexOf('#');
        HerringShares x = new HerringShares();
        Due.put(x, marked.replace("#", ""));
        DUE.about(marked.length() < 200 ? marked : marked.substring(0, 200) + " ..");
        DUE.is("read", number, x.read());
        DUE.is("place", place, x.place());
    }

    private static String times(int n, String text) {
        return text.repeat(n);
    }

    private static void tokens() {
        fault(0, "");
        fault(0, " \t\r\n ");
        fault(0, "salt5;salt 0005;\tsalt\n999\r;");
        fault(0, "house abcdefgh 1 2 3 4;");
        fault(1, "house #abcdefghi 1 2 3 4;");
        fault(1, "salt #00005;");
        fault(1, "salt #12345678901234567890;");
        fault(1, "#Salt 5;");
        fault(1, "#salT 5;");
        fault(1, "salt 5#,");
        fault(1, "salt 5; #_");
        fault(1, "#salts 5;");
        fault(1, "#housea 1 2 3 4;");
        fault(0, "house a1 2 3 4;");
        fault(1, "house a 1 2 3 4;motion h#9;");
        fault(0, "house mouse 1 1 1 1; house houses 1 1 1 1; house hous 1 1 1 1; house hoose 1 1 1 1;");
        fault(0, "house of 1 1 1 1; house whicher 1 1 1 1; house salte 1 1 1 1; house motioner 1 1 1 1;");
        for (String word : ModelText.WORDS) {
            fault(1, "house #" + word + " 1 1 1 1;");
        }
        fault(1, "price = 1 #> 2;");
        fault(1, "price = #-1;");
    }

    private static void syntax() {
        fault(1, "#a");
        fault(1, "#5;");
        fault(1, "#;");
        fault(1, "salt 5;#;");
        fault(1, "house #5 1 1 1 1;");
        fault(1, "house #fish 1 1 1 1;");
        fault(1, "house #house 1 1 1 1;");
        fault(1, "house a 1 1 1#;");
        fault(1, "house a 1 1 1 1 #1;");
        fault(1, "house a 1 1 #b 1;");
        fault(1, TWO + "hears a#;");
        fault(1, TWO + "hears a b #a;");
        fault(1, TWO + "motion#;");
        fault(1, TWO + "motion m a #1;");
        fault(1, TWO + "motion m a #all;");
        fault(1, "salt #fish;");
        fault(1, "price #5;");
        fault(1, "price =#;");
        fault(1, "price = 1 #2;");
        fault(1, "price = 1 +#;");
        fault(1, "price = 1 + #* 2;");
        fault(1, "price = (1#;");
        fault(1, "price = 1#);");
        fault(1, "price = (#);");
        fault(1, "price = 1 #< 2;");
        fault(1, "price = if 1 #then;");
        fault(1, "price = if 1 < 2 #else 3;");
        fault(1, "price = if 1 < 2 #< 3 then 4 else 5;");
        fault(1, "price = if 1 < 2 then 3#;");
        fault(1, "price = if 1 < 2 then 3 else#;");
        fault(1, "price = if 1 < 2 then #if 1 < 2 then 3 else 4 else 5;");
        fault(1, "price = if (1 #< 2) then 3 else 4;");
        fault(1, "price = #a;");
        fault(1, "price = 1 + #if 1 < 2 then 3 else 4;");
        fault(0, "price = if 1 < 2 then 3 else if (fish) < all * day / hunger then coins + fear else salted - ate + which;");
    }

    private static void ends() {
        fault(1, "house#");
        fault(1, "house a 1 1 1 1#");
        fault(1, "house a 1 1 1 1  \n #");
        fault(1, "price =#");
        fault(1, "price = 1#");
        fault(1, "price = (1 #");
        fault(1, "price = if#");
        fault(1, TWO + "motion m a b#");
    }

    private static String house(int i) {
        return "house " + (char) ('a' + i) + " 1 1 1 1;";
    }

    private static String houses(int n) {
        StringBuilder text = new StringBuilder();
        for (int i = 0; i < n; i++) {
            text.append(house(i));
        }
        return text.toString();
    }

    private static String hearings(int n) {
        StringBuilder text = new StringBuilder();
        for (int i = 0; i < n; i++) {
            text.append("hears ").append((char) ('a' + i / 6)).append(' ');
            text.append((char) ('a' + (i / 6 + 1 + i % 6) % 7)).append(';');
        }
        return text.toString();
    }

    private static void room() {
        fault(0, houses(7));
        fault(2, houses(7) + "#house");
        fault(2, houses(7) + "#" + house(7));
        fault(0, houses(7) + hearings(16));
        fault(2, houses(7) + hearings(16) + "#hears a b;");
        fault(0, houses(7) + "motion ma; motion mb; motion mc; motion md; motion me;");
        fault(2, houses(7) + "motion ma; motion mb; motion mc; motion md; motion me; #motion mf;");
        String test = "if 1 < 2 then 3 else ";
        fault(0, "price = " + times(4, test) + "5; eats = " + times(4, test) + "5; price = " + times(4, test) + "1;");
        fault(2, "price = " + times(4, test) + "#" + test + "5;");
        fault(2, "price = " + times(4, test) + "#if");
        fault(0, "price = " + times(6, "(") + "1" + times(6, ")") + ";");
        fault(0, "price = " + times(6, "(") + "1" + times(6, ")") + "+" + times(6, "(") + "1" + times(6, ")") + ";");
        fault(2, "price = " + times(6, "(") + "#(1" + times(7, ")") + ";");
        fault(1, "price = " + times(6, "(") + "1#(1" + times(7, ")") + ";");
        String six = times(6, "(") + "1" + times(6, ")");
        String seven = times(6, "(") + "#(1" + times(7, ")");
        fault(0, "price = if " + six + " < " + six + " then " + six + " else " + six + ";");
        fault(2, "price = if " + seven + " < 1 then 1 else 1;");
        fault(2, "price = if 1 < " + seven + " then 1 else 1;");
        fault(2, "price = if 1 < 1 then " + seven + " else 1;");
        fault(2, "price = if 1 < 1 then 1 else " + seven + ";");
        fault(1, "price = " + times(4, test) + "1 #if 1 < 2");
        fault(0, times(20, "price=1;"));
    }

    private static void tokenRoom() {
        // each of these tells has three TOKENS: 399 in all, and one more
        String many = times(133, "salt 1;");
        fault(0, many);
        fault(1, many + "seed#");
        fault(1, many + "seed  #");
        fault(2, many + "seed #1;");
        fault(1, many + "seed #a;");
        fault(1, many + "seed #12345;");
        fault(1, many + "#;");
        fault(1, many + "seed #;");
        fault(0, "price=1" + times(198, "+1") + ";");
        fault(2, "price=1" + times(198, "+1") + "+#1;");
        fault(2, "price=1" + times(198, "+1") + ";#seed");
        fault(0, "price=(1)" + times(197, "+1") + ";");
        fault(2, "price=(1)" + times(197, "+1") + "+#1;");
        fault(2, "salt 1;price=1" + times(197, "+1") + "#;");
    }

    private static void twice() {
        fault(3, TWO + "house #a 1 1 1 1;");
        fault(3, TWO + "motion #b;");
        fault(3, TWO + "motion m; motion #m;");
        fault(3, "motion m; house #m 1 1 1 1;");
        fault(3, TWO + "hears a #a;");
        fault(3, TWO + "hears a b; hears b a; hears a #b;");
        fault(0, TWO + "hears a b; hears b a;");
        fault(3, TWO + "motion m a b #a;");
        fault(3, TWO + "motion m a #a;");
        fault(0, TWO + "motion m a b; motion n a b;");
        fault(0, "house ab 1 1 1 1; house a 1 1 1 1; house abc 1 1 1 1;");
    }

    private static void names() {
        fault(4, "hears #a b;");
        fault(4, "house a 1 1 1 1; hears a #b; house b 1 1 1 1;");
        fault(4, TWO + "hears #c c;");
        fault(4, TWO + "motion m a #c b;");
        fault(4, TWO + "motion m #m;");
        fault(4, TWO + "motion m; hears a #m;");
        fault(4, "motion m #a; house a 1 1 1 1;");
        fault(4, TWO + "motion m #c c;");
        fault(4, TWO + "hears a #ab;");
    }

    private static void numbers() {
        fault(0, "house a 0 0 0 0; house b 99 999 9 9; salt 999; odds 100; seed 9999; salt 0; odds 0; seed 0;");
        fault(5, "house a #100 1 1 1;");
        fault(5, "house a 1 #1000 1 1;");
        fault(5, "house a 1 1 #10 1;");
        fault(5, "house a 1 1 1 #10;");
        fault(5, "salt #1000;");
        fault(5, "odds #101;");
        fault(5, "salt #1000; salt 5;");
        fault(0, "house a 0099 0999 0009 0009; price = 9999;");
    }

    private static void firstByPlace() {
        fault(1, "house a 100 1 1 1; hears a a; #x");
        fault(2, "salt 1000;" + houses(7) + "#house h 1 1 1 1; x");
        fault(1, "#x" + houses(8));
        fault(5, "house a #100 1 1 1; house a 1 1 1 1;");
        fault(3, "house a 1 1 1 1; house #a 100 1 1 1;");
        fault(4, TWO + "hears #z a; salt 1000;");
        fault(3, TWO + "hears b #b; hears z a;");
        fault(3, TWO + "house #a 1 1 1 1; hears a b;");
    }

    private static void whatAFaultLeaves() {
        HerringShares x = Due.town("house a 5 6 7 8; house b 9 9 9 9; hears a b; motion m a; price = 3; odds 100;");
        x.days(2);
        x.proxy(0, 1);
        x.tell(0, true);
        x.hold(1);
        Due.put(x, "house c 1 1 1 1; house d 1 1 1 1; price = 7; odds 0; salt 1; hears c c;");
        DUE.about("a text with a FAULT");
        DUE.is("read", 3, x.read());
        DUE.is("place", 69, x.place());
        int[] counts = {2, 1, 1, 2, 34, 15, 0, 20, 0, 2, 1, 1, 34, 1, 0};
        for (int i = 0; i < counts.length; i++) {
            DUE.is("count(" + i + ")", counts[i], x.count(i));
        }
        DUE.is("price", 3, x.tells(0, 0));
        DUE.is("house(0, 6)", 1, x.house(0, 6));
        DUE.is("began", 1, x.began(1, 0));
        Due.put(x, "house c 1 1 1 1;");
        DUE.about("a text without one, in its place");
        DUE.is("read", 0, x.read());
        int[] later = {1, 0, 0, 0, 1, 1, 0, 20, 0, 0, 0, 0, 1, 0, 0};
        for (int i = 0; i < later.length; i++) {
            DUE.is("count(" + i + ")", later[i], x.count(i));
        }
        DUE.is("price", 10, x.tells(0, 0));
        DUE.is("house(0, 6)", -2, x.house(0, 6));
        DUE.is("house(0, 9)", 0, x.house(0, 9));
        DUE.is("motion(0, 0)", -1, x.motion(0, 0));
        DUE.is("undo", false, x.undo());
        DUE.is("restore", false, x.restore(1));
    }
}
