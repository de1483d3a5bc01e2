/** Counts answers that are not due, and feeds texts as the class takes them. */
final class Due {
    private int wrong;
    private int asked;
    private String about = "";

    void about(String what) {
        about = what;
    }

    void is(String call, long want, long got) {
        asked++;
        if (want != got) {
            wrong++;
            System.out.println(about + ": " + call + " answered " + got + ", due is " + want);
        }
    }

    void is(String call, boolean want, boolean got) {
        is(call, want ? 1 : 0, got ? 1 : 0);
    }

    void end() {
        System.out.println(asked + " answers, " + wrong + " not as due");
        if (wrong != 0) {
            System.exit(1);
        }
    }

    /** Puts a text behind the tape, twenty bytes at a time, the blanks that fill it taken back. */
    static void put(HerringShares x, String text) {
        int at = 0;
        while (at < text.length()) {
            int[] words = new int[5];
            for (int i = 0; i < 20; i++) {
                int sign = at + i < text.length() ? text.charAt(at + i) : ' ';
                words[i / 4] = words[i / 4] << 8 | sign & 255;
            }
            x.feed(words[0], words[1], words[2], words[3], words[4]);
            at += 20;
        }
        x.back(at - text.length());
    }

    static HerringShares town(String text) {
        HerringShares x = new HerringShares();
        put(x, text);
        int fault = x.read();
        if (fault != 0) {
            throw new IllegalStateException("fault " + fault + " at " + x.place() + " of " + text);
        }
        return x;
    }
}
