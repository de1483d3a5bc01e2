public final class NewObjectTest {
    public static void main(String[] args) {
        Due due = new Due();
        due.about("promise 1");
        HerringShares x = new HerringShares();
        int[] counts = {0, 0, 0, 0, 0, 0, 0, 20, 0, 0, 0, 0, 0, 0, 0};
        for (int i = 0; i < counts.length; i++) {
            due.is("count(" + i + ")", counts[i], x.count(i));
        }
        due.is("place", HerringShares.NONE, x.place());
        due.is("house", HerringShares.NONE, x.house(0, 0));
        due.is("tells", 10, x.tells(0, 0));
        due.is("undo", false, x.undo());
        due.end();
    }
}
