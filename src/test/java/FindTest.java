/** Promises 16 to 24 and 33: fits, ends, row, street, has, covers, tray, was, ask, cheapest. */
public final class FindTest {
    public static void main(String[] args) {
        fitting();
        ending();
        orders();
        streets();
        covering();
        lastPages();
        asking();
        cheapest();
        Check.finish();
    }

    private static void fitting() {
        EndingMarket x = Check.of("kind k;kind l;man m 9;thing t m k 5;thing u m;ending e m 1 k 9;ending f m 1 k 1 l 1;"
                + "ending g m 1;ending h m 1 k 1;");
        int[] due = {1, 0, 0, 1};
        for (int e = 0; e < 4; e++) {
            Check.due("fits " + e, x.fits(e, 0), due[e]);
            Check.due("fits what is ended " + e, x.fits(e, 1), 0);
        }
        x.put(0, 3, 0);
        Check.due("fits, put", x.fits(3, 0), -1);
        Check.due("fits 4", x.fits(4, 0), -1);
        Check.due("fits -1", x.fits(-1, 0), -1);
        Check.due("fits thing 2", x.fits(0, 2), -1);
        Check.due("fits thing -1", x.fits(0, -1), -1);
    }

    private static void row(EndingMarket x, int... due) {
        for (int k = 0; k < due.length; k++) {
            Check.due("row " + k, x.row(k), due[k]);
        }
        Check.due("row " + due.length, x.row(due.length), -1);
        Check.due("row -1", x.row(-1), -1);
    }

    private static void ending() {
        EndingMarket x = Check.of("kind k;man m 9;man n 9;thing t m k 5;thing u m k 9;thing v n;"
                + "ending a m 3 k 3;ending b n 3 k 3;ending c m 6 k 5;ending d n 2 k 2;ending e n 1 k 2;dusk 1;");
        Check.due("no such", x.ends(3) + x.ends(-1), -2);
        row(x);
        Check.due("the least coin", x.ends(0), 4);
        row(x, 0, 4);
        Check.due("three of them", x.ends(1), 9);
        row(x, 2, 3, 4);
        Check.due("nothing is open", x.ends(2), 0);
        row(x);
        x.put(0, 0, 1);
        Check.due("the others", x.ends(1), 6);
        row(x, 1, 3, 4);
        x.put(0, 2, 1);
        x.days(1);
        Check.due("prices now", x.ends(1), 0);
        row(x, 4);
        Check.market(x, "kind k;man m 9;thing t m k 9;ending a m 3 k 3;");
        Check.due("never", x.ends(0), -1);
        row(x, 4);
        // Like coin: the fewest, then the least as bits.
        Check.market(x, "kind k;man m 9;thing t m k 4;ending a m 0 k 2;ending b m 0 k 2;ending c m 0 k 4;"
                + "ending d m 0 k 5;");
        Check.due("like coin", x.ends(0), 0);
        row(x, 2);
        Check.market(x, "kind k;kind l;man m 9;thing t m k 3 l 3;ending a m 2 k 1 l 3;ending b m 1 k 3;"
                + "ending c m 1 l 3;ending d m 0 k 2;");
        Check.due("b and c are less as bits than a and d", x.ends(0), 2);
        row(x, 1, 2);
    }

    private static void orders() {
        // Ending b closes k whole, so a must come first, though each alone would fit.
        EndingMarket x = Check.of("kind k;kind l;man m 9;thing t m k 2 l 5;ending b m 1 k 2;ending a m 1 k 1 l 5;");
        Check.due("ends", x.ends(0), 2);
        row(x, 1, 0);
        // Both close k and l whole, and neither closes all: no order will do.
        Check.market(x, "kind k;kind l;kind j;man m 9;thing t m k 1 l 1 j 1;ending a m 1 k 1 l 1;ending b m 1 k 1 j 1;");
        Check.due("no order", x.ends(0), -1);
        row(x, 1, 0);
        // Each ending is needed, and the only order is from the last to the first.
        Check.market(x, "kind k;kind l;kind j;man m 9;thing t m k 2 l 2 j 1;ending a m 5 k 9;ending b m 5 k 1 l 9;"
                + "ending c m 5 l 1 j 9;");
        Check.due("ends", x.ends(0), 15);
        row(x, 2, 1, 0);
        // Behind a, b would leave nothing of k for c.
        Check.market(x, "kind k;kind l;kind j;man m 9;thing t m k 4 l 1 j 1;ending a m 1 k 1 j 1;ending b m 1 k 3;"
                + "ending c m 1 k 1 l 1;");
        Check.due("ends", x.ends(0), 3);
        row(x, 0, 2, 1);
    }

    private static void has(EndingMarket x, int... due) {
        for (int t = 0; t < due.length; t++) {
            Check.due("has " + t, x.has(t), due[t]);
        }
        Check.due("has -1", x.has(-1), -1);
        Check.due("has 8", x.has(8), -1);
    }

    private static void streets() {
        EndingMarket x = Check.of("kind k;kind l;man m 9;thing s m k 2;thing t m k 3;thing u m l 1;thing v m;"
                + "ending a m 5 k 3;ending b m 5 k 3;ending c m 1 k 2;ending d m 9 l 9;ending e m 1 k 9 l 9;dusk 0;");
        Check.due("no such", x.street(16), -1);
        Check.due("no such", x.street(-1), -1);
        has(x, -1, -1, -1, -1);
        Check.due("all", x.street(15), 15);
        has(x, 2, 0, 3, -1);
        Check.due("two", x.street(3), 6);
        has(x, 2, 0, -1, -1);
        x.put(0, 2, 1);
        Check.due("open is less", x.street(3), 10);
        has(x, 0, 1, -1, -1);
        x.put(0, 1, 1);
        Check.due("too few", x.street(3), 5);
        has(x, 0, -1, -1, -1);
        x.put(0, 3, 2);
        x.put(0, 0, 0);
        Check.due("none needs any", x.street(15), 0);
        has(x, -1, -1, -1, -1);
        // Like coin: thing by thing the least ending. And the cheap one goes where no other would do.
        Check.market(x, "kind k;man m 9;thing s m k 2;thing t m k 3;thing u m k 3;ending a m 1 k 9;ending b m 1 k 2;"
                + "ending c m 2 k 3;ending d m 2 k 4;");
        Check.due("street", x.street(7), 4);
        has(x, 1, 0, 2);
        Check.market(x, "kind k;man m 9;thing s m k 2;thing t m k 2;ending a m 3 k 2;ending b m 3 k 2;ending c m 3 k 2;");
        Check.due("street", x.street(3), 6);
        has(x, 0, 1);
        Check.market(x, "kind k;man m 9;thing s m k 2;thing t m k 3;ending a m 3 k 2;ending b m 3 k 2;");
        Check.due("never", x.street(3), -1);
        has(x, 0, 1);
        Check.due("none", x.street(0), 0);
        has(x, -1, -1);
    }

    private static void covering() {
        EndingMarket x = Check.of("kind a;kind b;kind c;man m 9;thing s m a 1;thing t m b 1;thing u m a 1 c 1;thing v m;"
                + "thing w m a 1 b 1 c 1;ending e m 1 c 1;ending f m 1 b 1;ending g m 1 a 9;ending h m 1 a 1 b 1;");
        Check.due("ahead of any", x.tray(), -1);
        Check.due("all", x.covers(31), 2);
        Check.due("tray", x.tray(), 6);
        Check.due("no such", x.covers(32), -1);
        Check.due("no such", x.covers(-2), -1);
        Check.due("stays", x.tray(), 6);
        Check.due("the least as bits", x.covers(16), 1);
        Check.due("tray", x.tray(), 1);
        Check.due("none", x.covers(8), 0);
        Check.due("tray", x.tray(), 0);
        x.put(0, 1, 4);
        Check.due("can't be", x.covers(2), -1);
        Check.due("put ones do not count", x.covers(5), 1);
        Check.due("tray", x.tray(), 4);
        Check.market(x, "kind a;kind b;man m 9;thing s m a 1 b 1;thing t m b 1;thing u m a 1;ending e m 1 a 1;"
                + "ending f m 1 b 1;ending g m 1 b 1;");
        Check.due("one of two", x.covers(3), 1);
        Check.due("the fewest, though more as bits", x.tray(), 2);
        Check.due("two", x.covers(7), 2);
        Check.due("tray", x.tray(), 3);
        Check.market(x, "kind a;kind b;kind c;man m 9;thing s m a 1 c 1;thing t m b 1 c 1;ending e m 1 a 1;"
                + "ending f m 1 b 1;ending g m 1 c 1;");
        Check.due("the fewest", x.covers(3), 1);
        Check.due("though more as bits", x.tray(), 4);
    }

    private static void lastPages() {
        EndingMarket x = Check.of("kind k;kind l;man m 9;thing s m k 5;thing t m k 3;thing u m k 2 l 1;thing v m;"
                + "ending a m 1 k 3;ending b m 1 k 1 l 1;ending c m 1 k 9;ending d m 1;");
        Check.due("as told", Check.was(x, "\5\0"), 1);
        Check.due("tape", x.count(5), 0);
        Check.due("nothing open", Check.was(x, "\0\0"), 8);
        Check.due("by one", Check.was(x, "\0\0\2"), 3);
        Check.due("by one", Check.was(x, "\2\0\0"), 1);
        Check.due("in some order", Check.was(x, "\0\0\2\1"), 4);
        Check.due("in some order", Check.was(x, "\0\0\1\2"), 4);
        Check.due("in some order", Check.was(x, "\0\0\2\0"), 1);
        Check.due("none comes so", Check.was(x, "\1\0\0"), 0);
        Check.due("it closes nothing", Check.was(x, "\0\0\3"), 0);
        Check.due("much", Check.was(x, "\u00ff\0"), 0);
        Check.due("too short", Check.was(x, "\0"), -1);
        Check.due("tape", x.count(5), 0);
        Check.due("no such ending", Check.was(x, "\0\0\4"), -1);
        Check.due("no such ending", Check.was(x, "\0\0\u00ff"), -1);
        Check.due("twice", Check.was(x, "\0\0\2\2"), -1);
        // It is about things as they were told and all endings, whatever was done.
        x.put(0, 2, 0);
        Check.due("still", Check.was(x, "\2\0\0"), 1);
        Check.due("still", Check.was(x, "\5\0"), 1);
        EndingMarket y = new EndingMarket();
        Check.due("of an empty market", y.was(), 0);
        Check.market(y, "man m 1;thing t m;");
        Check.due("without kinds", y.was(), 1);
        Check.due("no kind to ask for", y.ask(), -1);
    }

    private static void asking() {
        EndingMarket x = Check.of("kind j;kind k;kind l;man m 9;thing s m k 1 l 1;thing t m k 2 l 2;thing u m k 3 l 1;"
                + "thing v m j 4 k 3;ending e m 1 k 9 l 9;");
        Check.due("ahead of any", x.ask(), -1);
        Check.due("none comes so", Check.was(x, "\1\0\0\0"), 0);
        Check.due("ahead of any", x.ask(), -1);
        Check.due("was", Check.was(x, "\0\0\0\0"), 7);
        Check.due("k has three", x.ask(), 1);
        Check.due("was", Check.was(x, "\4\3\0"), 8);
        Check.due("like ones: the first", x.ask(), 0);
        Check.due("was", Check.was(x, "\0\0\0\0"), 7);
        Check.due("none", Check.was(x, "\0\0\0\0\0"), -1);
        Check.due("none", Check.was(x, "\7\0\0"), 0);
        Check.due("stays", x.ask(), 1);
        x.put(0, 0, 1);
        Check.due("stays", x.ask(), 1);
        Check.market(x, "kind j;kind k;man m 9;thing s m k 1;thing t m j 1 k 2;ending e m 1 k 9;ending f m 1 j 9;");
        Check.due("was", Check.was(x, "\0\1"), 1);
        Check.due("nothing is an amount, too", x.ask(), 0);
        Check.market(x, "kind j;kind k;kind l;man m 9;thing s m j 1 k 3 l 1;thing t m j 2 k 3 l 3;thing u m j 2 k 3 l 5;"
                + "ending e m 1 j 9 l 9;");
        Check.due("was", Check.was(x, "\0\3\0\0"), 7);
        Check.due("three amounts", x.ask(), 2);
        Check.market(x, "kind j;kind k;man m 9;thing s m k 2;thing t m k 3;thing u m j 1 k 1;ending e m 1 k 9;"
                + "ending f m 1 j 1;");
        Check.due("was", Check.was(x, "\0\0\0"), 3);
        Check.due("the things alone that come so", x.ask(), 1);
        Check.market(x, "kind i;kind j;kind k;man m 9;thing r m;thing s m i 1 k 2;thing t m i 1 j 1 k 1;thing u m i 1 k 1;"
                + "ending e m 1 i 1 k 9;");
        Check.due("was", Check.was(x, "\0\0\0\0"), 10);
        Check.due("unlike are k alone", x.ask(), 2);
    }

    private static void cheapest() {
        EndingMarket x = Check.of("kind k;kind l;man m 9;man n 9;thing t m k 5;thing u n k 1 l 1;ending a m 1 k 1;"
                + "ending b n 5 k 1;ending c n 4 k 1;ending d n 4 k 1;ending e n 0 l 1;ending f n 0;dusk 0;");
        Check.due("of another one", x.cheapest(0), 2);
        Check.due("of another one", x.cheapest(1), 0);
        x.buy(0, 2);
        Check.due("c is his now", x.cheapest(0), 3);
        x.put(1, 3, 1);
        Check.due("d is put", x.cheapest(0), 1);
        Check.due("a fits no more", x.cheapest(1), -1);
        Check.due("no such", x.cheapest(2), -1);
        Check.due("no such", x.cheapest(-1), -1);
    }
}
