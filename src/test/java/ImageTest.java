/** Promises 40 and 41: image, restore. */
public final class ImageTest {
    private static final String FIRST = "kind k;man m 9;man n 9;thing t m k 5;ending e m 3 k 2;ending f n 4 k 5;false e 3;dusk 2;";
    private static final String SECOND = "kind a;kind b;man z 1;thing y z a 1 b 1;";

    public static void main(String[] args) {
        noSuchOnes();
        keepsAll();
        keepsTwo();
        keepsWhatWasClosed();
        Check.finish();
    }

    private static void noSuchOnes() {
        EndingMarket x = Check.of(FIRST);
        int[] none = {-1, 2, Integer.MIN_VALUE, Integer.MAX_VALUE};
        for (int k : none) {
            Check.due("image " + k, x.image(k), false);
            Check.due("restore " + k, x.restore(k), false);
        }
        Check.due("nothing is kept", x.restore(0) || x.restore(1), false);
        Check.due("image 1", x.image(1), true);
        Check.due("nothing is kept", x.restore(0), false);
        x.days(1);
        Check.due("restore 1", x.restore(1), true);
        Check.due("day", x.now(0), 0);
    }

    private static void keepsAll() {
        EndingMarket x = Check.of(FIRST);
        x.buy(0, 1);
        x.days(1);
        x.put(0, 0, 0);
        Check.sentence(x, "pages = 1 and of m");
        Check.due("image", x.image(0), true);
        Check.due("an image takes nothing from undo", x.undo(), 2);
        Check.due("market", Check.market(x, SECOND), 4);
        Check.due("ends", x.ends(0), -1);
        Check.ledger(x, "day 7;", 1);
        Check.sentence(x, "of nobody");
        x.feed(0, 0, 0, 0, 0);
        Check.due("restore", x.restore(0), true);
        Check.due("nothing can be undone", x.undo(), -1);
        int[] count = {1, 2, 1, 2, 2, 20};
        for (int what = 0; what < 6; what++) {
            Check.due("count " + what, x.count(what), count[what]);
        }
        int[] now = {1, 0, 1, 18, 3, 0};
        for (int what = 0; what < 6; what++) {
            Check.due("now " + what, x.now(what), now[what]);
        }
        Check.due("coin", x.man(0, 0) * 100 + x.man(1, 0), 513);
        Check.due("who has f", x.ending(1, 0), 0);
        Check.due("put on", x.ending(0, 3), 1);
        Check.due("dark", x.dark(), 1);
        Check.due("said", x.said(0), 0);
        Check.due("said", x.said(-1), 1);
        Check.due("fault stays", x.fault(), 3);
        Check.due("told stays", x.told(2), 7);
        x.end(0);
        Check.due("names", Check.ledger(x, "m puts f t;day 2;", 1), -1);
        x.days(2);
        Check.due("what is false", x.open(0, 0), 2);
        Check.due("again", x.restore(0), true);
        Check.due("as kept", x.now(4), 3);
        Check.due("no names of the other market", Check.ledger(x, "z buys e;", 0), -2);
        Check.due("fault", x.fault(), 3);
    }

    private static void keepsWhatWasClosed() {
        EndingMarket x = Check.of("kind k;man m 9;thing t m k 5;ending e m 1 k 3;ending f m 1 k 4;false e 1;");
        x.put(0, 0, 0);
        x.image(0);
        x.undo();
        x.put(0, 1, 0);
        x.put(0, 0, 0);
        Check.due("restore", x.restore(0), true);
        x.days(1);
        Check.due("3 were closed", x.open(0, 0), 5);
        Check.due("undo", x.undo(), 0);
        x.days(1);
        Check.due("3 were closed", x.open(0, 0), 5);
    }

    private static void keepsTwo() {
        EndingMarket x = new EndingMarket();
        Check.due("image of an empty one", x.image(0), true);
        Check.market(x, FIRST);
        x.days(3);
        Check.due("image", x.image(1), true);
        Check.sentence(x, "ended");
        Check.due("restore 0", x.restore(0), true);
        Check.due("things", x.count(2), 0);
        Check.due("day", x.now(0), 0);
        Check.due("dusk", x.count(4), 1);
        Check.due("restore 1", x.restore(1), true);
        Check.due("things", x.count(2), 1);
        Check.due("day", x.now(0), 3);
        Check.due("no sentence", x.said(-1), -1);
        x.days(1);
        Check.due("image 1 anew", x.image(1), true);
        Check.due("undo", x.undo(), 0);
        Check.due("restore 1", x.restore(1), true);
        Check.due("day", x.now(0), 4);
    }
}
