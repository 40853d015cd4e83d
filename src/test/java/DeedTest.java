/** Promises 12 to 15: buy, put, days, undo. */
public final class DeedTest {
    public static void main(String[] args) {
        buying();
        putting();
        days();
        darkDays();
        lastDay();
        undoing();
        Check.finish();
    }

    private static void buying() {
        EndingMarket x = Check.of("kind k;man m 10;man n 3;thing t m k 2;ending e m 1 k 2;ending f n 10 k 1;"
                + "ending g m 4;dusk 0;");
        Check.due("buy his own", x.buy(0, 0), 2);
        Check.due("buy too dear", x.buy(1, 2), 3);
        Check.due("buy", x.buy(0, 1), 0);
        Check.due("coin of m", x.man(0, 0), 0);
        Check.due("coin of n", x.man(1, 0), 13);
        Check.due("who has f", x.ending(1, 0), 0);
        Check.due("f was bought", x.ending(1, 5), 1);
        Check.due("m bought", x.man(0, 3), 1);
        Check.due("n bought", x.man(1, 3), 0);
        Check.due("buy back", x.buy(1, 1), 0);
        Check.due("f was bought twice", x.ending(1, 5), 2);
        Check.due("put", x.put(0, 0, 0), 0);
        Check.due("buy what is put", x.buy(1, 0), 1);
        Check.due("buy what he put", x.buy(0, 0), 1);
        int[][] none = {{2, 0}, {-1, 0}, {0, 3}, {0, -1}};
        for (int[] n : none) {
            Check.due("buy " + n[0] + " " + n[1], x.buy(n[0], n[1]), -1);
        }
    }

    private static void putting() {
        EndingMarket x = Check.of("kind k;kind l;man m 10;man n 3;thing t m k 2;thing u n k 2;ending e m 1 k 1 l 1;"
                + "ending f n 1 k 9;ending g m 1 k 1;ending h m 1;ending i m 1 k 5;ending j m 1 k 1;");
        Check.due("it does not fit", x.put(0, 0, 0), 3);
        Check.due("it closes nothing", x.put(0, 3, 0), 3);
        Check.due("it is not his", x.put(0, 1, 0), 2);
        Check.due("the thing is not", x.put(0, 2, 1), 2);
        Check.due("neither is", x.put(0, 1, 1), 2);
        Check.due("put", x.put(0, 2, 0), 0);
        Check.due("open", x.open(0, 0), 1);
        Check.due("put twice", x.put(0, 2, 0), 1);
        Check.due("put what another one put", x.put(1, 2, 1), 1);
        Check.due("put more than is open", x.put(0, 4, 0), 0);
        Check.due("open", x.open(0, 0), 0);
        Check.due("nothing is open", x.put(0, 5, 0), 3);
        Check.due("who has it", x.ending(2, 0), -1);
        Check.due("where", x.ending(4, 2), 0);
        Check.due("m put", x.man(0, 4), 2);
        Check.due("pages", x.thing(0, 2), 2);
        int[][] none = {{2, 0, 0}, {-1, 0, 0}, {0, 6, 0}, {0, -1, 0}, {0, 0, 2}, {0, 0, -1}};
        for (int[] n : none) {
            Check.due("put " + n[0] + " " + n[1] + " " + n[2], x.put(n[0], n[1], n[2]), -1);
        }
    }

    private static void days() {
        EndingMarket x = Check.of("kind k;man m 99;man n 9;thing t m k 9;ending e m 10 k 1;ending f n 10 k 1;"
                + "ending g m 10 k 1;ending h n 50;dusk 4;");
        x.buy(0, 1);
        x.put(0, 2, 0);
        Check.due("days 0", x.days(0), -1);
        Check.due("days -1", x.days(-1), -1);
        Check.due("days 61", x.days(61), -1);
        Check.due("day", x.now(0), 0);
        Check.due("days 1", x.days(1), 1);
        int[] price = {6, 10, 10, 46};
        for (int e = 0; e < 4; e++) {
            Check.due("price " + e, x.ending(e, 1), price[e]);
        }
        Check.due("days 2", x.days(2), 2);
        Check.due("not below 0", x.ending(0, 1), 0);
        Check.due("price 3", x.ending(3, 1), 38);
        // Trading is no buying: what is traded gets cheaper on.
        Check.due("day", x.now(0), 3);
        EndingMarket y = Check.of("kind k;kind l;man m 9;man n 9;thing t m k 1;thing u n l 1;ending e m 9 l 1;"
                + "ending f n 9 k 1;");
        Check.due("trade", y.trade(), 2);
        y.days(1);
        Check.due("traded", y.ending(0, 1), 8);
    }

    private static void darkDays() {
        EndingMarket x = Check.of("kind k;man m 9;thing t m k 5;thing u m k 9;ending e m 1 k 9;ending f m 1 k 4;"
                + "ending g m 1 k 4;false e 1;false f 3;");
        x.put(0, 0, 0);
        Check.due("open", x.open(0, 0), 0);
        x.days(1);
        Check.due("at the end of its day", x.open(0, 0), 5);
        x.put(0, 1, 1);
        x.days(2);
        Check.due("not yet", x.open(1, 0), 5);
        x.put(0, 2, 1);
        Check.due("dark", x.dark(), 2);
        x.days(1);
        Check.due("as much as it closed", x.open(1, 0), 5);
        Check.due("dark", x.dark(), 0);
        x.days(60);
        Check.due("once", x.open(1, 0) * 10 + x.open(0, 0), 55);
        Check.due("went on", x.now(5), 2);
        Check.due("it can't be brought back", x.put(0, 1, 1), 1);
    }

    private static void lastDay() {
        EndingMarket x = Check.of("kind k;man m 9;man n 9;thing t m k 5;ending e n 1 k 5;false e 1;dusk 0;");
        for (int i = 0; i < 6; i++) {
            x.days(60);
        }
        Check.due("days left", x.days(60), 40);
        Check.due("none left", x.days(1), 0);
        Check.due("day", x.now(0), 400);
        Check.due("days that did not go by are not undone", x.undo(), 6);
        Check.due("day", x.now(0), 360);
        Check.due("days left", x.days(40), 40);
        Check.due("buy", x.buy(0, 0), 0);
        Check.due("put", x.put(0, 0, 0), 0);
        Check.due("put on", x.ending(0, 3), 400);
        Check.due("dark", x.dark(), 1);
        Check.due("none left", x.days(60), 0);
    }

    private static void undoing() {
        EndingMarket x = Check.of("kind k;man m 9;man n 9;thing t m k 5;ending e n 3 k 5;ending f m 1;false e 1;");
        Check.due("none", x.undo(), -1);
        x.buy(0, 1);
        x.put(0, 0, 0);
        x.days(0);
        x.buy(5, 5);
        x.drawn(0, 0);
        Check.ledger(x, "day 1;", 0);
        Check.ledger(x, "m buys f;day 1;", 1);
        Check.due("none was done", x.undo(), -1);
        x.buy(0, 0);
        x.put(0, 0, 0);
        x.days(1);
        Check.ledger(x, "day 1;m buys f;", 1);
        x.drawn(2, 5);
        Check.due("undo drawn", x.undo(), 4);
        Check.due("day", x.now(0), 2);
        Check.due("undo ledger", x.undo(), 3);
        Check.due("day", x.now(0), 1);
        Check.due("open", x.open(0, 0), 5);
        Check.due("undo days", x.undo(), 2);
        Check.due("open", x.open(0, 0), 0);
        Check.due("went on", x.now(5), 0);
        Check.due("undo put", x.undo(), 1);
        Check.due("put", x.now(2), 0);
        Check.due("puts", x.man(0, 4), 0);
        Check.due("undo buy", x.undo(), 0);
        Check.due("coin", x.man(0, 0) * 100 + x.man(1, 0), 909);
        Check.due("bought", x.ending(0, 5) + x.man(0, 3), 0);
        Check.due("none", x.undo(), -1);
        for (int i = 0; i < 12; i++) {
            x.days(1);
        }
        for (int i = 7; i >= 0; i--) {
            Check.due("undo " + i, x.undo(), i);
        }
        Check.due("only eight", x.undo(), -1);
        Check.due("day", x.now(0), 4);
        x.days(1);
        Check.due("a new one", x.undo(), 0);
    }
}
