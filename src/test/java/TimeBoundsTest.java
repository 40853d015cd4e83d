/** Terms, the part marked ==== 3: ENDS, DRAWN, a new MARKET, and calls that throw. */
public final class TimeBoundsTest {
    private static final String TEXT = "kind k;kind l;man m 20;man n 20;man o 5;thing s m k 2;thing t n l 3;thing u o k 1 l 1;"
            + "ending a m 3 k 2;ending b n 4 l 2;ending c o 5 k 1;ending d m 6 l 9;ending e n 7 k 1 l 1;false c 2;dusk 2;";

    public static void main(String[] args) {
        Bounds.run(TimeBoundsTest.class);
    }

    private static void pass(EndingMarket x, int days) {
        for (int gone = 0; gone < days; gone += 60) {
            x.days(Math.min(60, days - gone));
        }
    }

    @Says(at = "Terms", quote = "ENDS: the first DAY (from now on) at whose beginning nothing is open in a THING,")
    private static void theFirstDay() {
        EndingMarket x = Check.of("kind k;man m 9;thing t m k 1;thing u m;ending e m 1 k 1;false e 2;");
        Check.due("1 is open", x.when(0), -1);
        Check.due("nothing is", x.when(1), 0);
        x.days(3);
        Check.due("from now on", x.when(1), 3);
        x.put(0, 0, 0);
        Check.due("nothing is now", x.when(0), 3);
        x.days(1);
        Check.due("nor on the next day", x.when(0), 4);
        x.days(1);
        Check.due("it went on", x.when(0), -1);
        pass(x, 394);
        Check.due("day 399", x.when(1), 399);
        Check.due("never", x.when(0), -1);
    }

    @Says(at = "Terms", quote = "if nothing is done.")
    private static void nothingIsDone() {
        EndingMarket x = Check.of("kind k;man m 9;thing t m k 1;thing u m k 1;ending e m 0 k 1;ending f m 0 k 1;false f 1;");
        Check.due("though e would end it", x.when(0), -1);
        Check.due("later", x.later(0, 400), 1);
        x.put(0, 0, 0);
        x.put(0, 1, 1);
        Check.due("what goes on by itself counts", x.later(1, 1), 1);
        Check.due("and what does not", x.later(0, 400), 0);
        Check.due("now", x.when(1), 0);
        Check.due("nothing was done by asking", x.now(0) + x.now(5), 0);
    }

    @Says(at = "Terms", quote = "DRAWN by a seed x: for each draw of n x becomes x * 1103515245 + 12345 (an int, wrapping),")
    private static void seedsWrap() {
        int[] seeds = {0, 1, 2, -1, -2, 12345, -12345, Integer.MAX_VALUE, Integer.MIN_VALUE, Integer.MAX_VALUE - 1,
            Integer.MIN_VALUE + 1, 1 << 30, 1 << 24, 0x7fffff00, 0x80000100};
        for (int seed : seeds) {
            EndingMarket y = Check.of(TEXT);
            EndingMarket z = Check.of(TEXT);
            Check.due("drawn", y.drawn(9, seed), 9);
            live(z, 9, seed);
            same(y, z, "drawn by " + seed);
        }
        // One man, one draw of three: every seed's first draw shows.
        for (int seed = -60; seed < 60; seed++) {
            oneDay(seed * 35791394);
            oneDay(seed);
        }
    }

    private static void oneDay(int seed) {
        String text = "man m 9;man n 9;kind k;thing t n k 1;ending e n 0 k 1;ending f n 0 k 1;";
        EndingMarket y = Check.of(text);
        EndingMarket z = Check.of(text);
        y.drawn(1, seed);
        live(z, 1, seed);
        same(y, z, "a day by " + seed);
    }

    private static long x;

    /** Counted with 64 bits: what wraps at 32 of them is cut off. */
    private static int draw(int n) {
        x = x * 1103515245L + 12345L & 0xffffffffL;
        return (int) (x / 256 % n);
    }

    private static void live(EndingMarket z, int n, int seed) {
        x = seed & 0xffffffffL;
        for (int i = 0; i < n; i++) {
            for (int m = 0; m < z.count(1); m++) {
                int deed = draw(3);
                if (deed == 0) {
                    z.buy(m, draw(z.count(3)));
                } else if (deed == 1) {
                    int e = draw(z.count(3));
                    z.put(m, e, draw(z.count(2)));
                }
            }
            z.days(1);
        }
    }

    private static void same(EndingMarket y, EndingMarket z, String call) {
        for (int what = 0; what < 6; what++) {
            Check.due(call + ": now " + what, y.now(what), z.now(what));
        }
        for (int m = 0; m < z.count(1); m++) {
            for (int what = 0; what < 5; what++) {
                Check.due(call + ": man " + m + " " + what, y.man(m, what), z.man(m, what));
            }
        }
        for (int e = 0; e < z.count(3); e++) {
            for (int what = 0; what < 7; what++) {
                Check.due(call + ": ending " + e + " " + what, y.ending(e, what), z.ending(e, what));
            }
        }
    }

    @Says(at = "Terms", quote = "the draw is (x >>> 8) % n:")
    private static void theDraw() {
        // The seed 0 becomes 12345, and 12345 >>> 8 is 48: a draw of 3 is 0, and he buys. The next x is below 0.
        int second = 12345 * 1103515245 + 12345;
        Check.due("it has wrapped", second < 0, true);
        EndingMarket z = Check.of("man m 9;man n 9;thing t m;ending e n 1;ending f n 1;dusk 0;");
        Check.due("drawn", z.drawn(1, 0), 1);
        Check.due("m bought one", z.man(0, 3), 1);
        int which = (int) ((second & 0xffffffffL) / 256 % 2);
        Check.due("this one", z.ending(which, 5) > 0, true);
        Check.due("not the other one", z.ending(1 - which, 5), 0);
    }

    @Says(at = "Terms", quote = "each DAY: MAN by MAN: a draw of 3: 0: a draw of all ENDINGS: he buys it, if he can;")
    private static void buyingByDraws() {
        int buyings = 0;
        int none = 0;
        for (int seed = 0; seed < 60; seed++) {
            EndingMarket y = Check.of("man m 1;man n 0;thing t m;ending e n 1;ending f n 1;ending g n 2;dusk 0;");
            EndingMarket z = Check.of("man m 1;man n 0;thing t m;ending e n 1;ending f n 1;ending g n 2;dusk 0;");
            y.drawn(2, seed);
            live(z, 2, seed);
            same(y, z, "seed " + seed);
            buyings += y.man(0, 3);
            none += y.man(0, 3) == 0 ? 1 : 0;
        }
        Check.due("some buy", buyings > 0, true);
        Check.due("some can't, or don't", none > 0, true);
    }

    @Says(at = "Terms", quote = "1: a draw of all ENDINGS, a draw of all THINGS: he puts it, if he can;")
    private static void puttingByDraws() {
        String text = "kind k;kind l;man m 1;thing s m k 3;thing t m l 3;thing u m;ending e m 1 k 1;ending f m 1 l 1;"
                + "ending g m 1;dusk 0;";
        int puts = 0;
        int none = 0;
        for (int seed = 0; seed < 60; seed++) {
            EndingMarket y = Check.of(text);
            EndingMarket z = Check.of(text);
            y.drawn(3, seed);
            live(z, 3, seed);
            same(y, z, "seed " + seed);
            puts += y.man(0, 4);
            none += y.man(0, 4) == 0 ? 1 : 0;
        }
        Check.due("some are put", puts > 0, true);
        Check.due("some can't, or aren't", none > 0, true);
    }

    @Says(at = "Terms", quote = "then the DAY.")
    private static void thenTheDay() {
        for (int seed = 0; seed < 30; seed++) {
            EndingMarket y = Check.of("kind k;man m 9;thing t m k 5;ending e m 50 k 5;ending f m 50;false e 1;dusk 1;");
            Check.due("drawn", y.drawn(8, seed), 8);
            Check.due("eight days went by", y.now(0), 8);
            Check.due("f is eight cheaper", y.ending(1, 1), 42);
            Check.due("what was put is open again at its end", y.open(0, 0), 5);
            Check.due("it went on, if it was put", y.ending(0, 4), y.ending(0, 2) + 1);
            // As many DAYS as it was not put ahead of: the DAY comes behind the draws.
            int putOn = y.ending(0, 3);
            Check.due("e is cheaper till it is put", y.ending(0, 1), 50 - (putOn < 0 ? 8 : putOn));
        }
    }

    private static EndingMarket used() {
        EndingMarket z = Check.of("kind k;man m 9;man n 9;thing s m;thing t m k 5;ending e n 1 k 5;ending f m 2 k 9;"
                + "false e 1;");
        z.buy(0, 0);
        z.put(0, 0, 1);
        z.days(3);
        Check.sentence(z, "ended");
        return z;
    }

    @Says(at = "Terms", quote = "A new MARKET: DAY 0, nothing put, no SENTENCE")
    private static void allBeginsAnew() {
        EndingMarket z = used();
        Check.due("something went on in the dark", z.now(5) + z.ending(0, 4), 2);
        Check.due("market", Check.market(z, "kind k;man m 9;man n 9;thing s m;thing t m k 5;ending e n 1 k 5;"), 6);
        Check.due("nothing did now", z.now(5) + z.ending(0, 4), 0);
        Check.due("day", z.now(0), 0);
        Check.due("put", z.now(2), 0);
        Check.due("put to", z.ending(0, 2), -1);
        Check.due("put on", z.ending(0, 3), -1);
        Check.due("who has it", z.ending(0, 0), 1);
        Check.due("bought", z.ending(0, 5) + z.man(0, 3) + z.man(0, 4), 0);
        Check.due("open", z.open(1, 0), 5);
        Check.due("coin", z.man(0, 0) + z.man(1, 0), 18);
        Check.due("no sentence", z.said(-1), -1);
        Check.due("none such", z.said(0), -1);
        // An empty one is new as well; one with a FAULT is none.
        EndingMarket y = used();
        y.market();
        Check.due("day", y.now(0), 0);
        Check.due("no sentence", y.said(-1), -1);
        EndingMarket w = used();
        Check.market(w, "kind");
        Check.due("day", w.now(0), 3);
        Check.due("put", w.now(2), 1);
        Check.due("sentence", w.said(-1), 1);
    }

    @Says(at = "Terms", quote = "(what other calls told last stays, numbers of the MARKET that was then, too);")
    private static void whatWasToldStays() {
        EndingMarket z = Check.of("kind j;kind k;man m 9;man n 9;thing s m;thing t m k 5;ending d n 9;ending e n 3 k 5;");
        z.ends(1);
        z.street(2);
        z.covers(2);
        z.haggle(0, 1);
        Check.was(z, "\0\5");
        Check.ledger(z, "day 2;n puts e t;", 0);
        Check.sentence(z, "of nobody");
        String[] markets = {"", "kind k;man m 1;", "kind"};
        for (String text : markets) {
            Check.market(z, text);
            Check.due("row", z.row(0), 1);
            Check.due("no more", z.row(1), -1);
            Check.due("has", z.has(1), 1);
            Check.due("has none", z.has(0), -1);
            Check.due("tray", z.tray(), 2);
            Check.due("ask", z.ask(), 0);
            Check.due("rounds", z.rounds(), 1);
            Check.due("told why", z.told(0), 12);
            Check.due("told lines", z.told(1), 1);
            Check.due("told day", z.told(2), 2);
            Check.due("told things", z.told(3), 1);
        }
        Check.due("the latest fault is of a market", z.fault(), 1);
    }

    @Says(at = "Terms", quote = "nothing can be undone.")
    private static void nothingCanBeUndone() {
        EndingMarket z = used();
        Check.due("as it was", z.undo(), 2);
        Check.market(z, "kind");
        Check.due("a fault leaves it", z.undo(), 1);
        Check.market(z, "kind k;");
        Check.due("a new market", z.undo(), -1);
        EndingMarket y = used();
        y.market();
        Check.due("an empty one", y.undo(), -1);
        y.days(1);
        Check.due("what was done in it", y.undo(), 0);
        Check.due("and no more", y.undo(), -1);
    }

    @Says(at = "Terms", quote = "A call that throws changes nothing.")
    private static void throwingChangesNothing() {
        EndingMarket z = used();
        z.ends(1);
        Check.feed(z, "kind k;");
        for (int what = -2; what < 9; what++) {
            Check.due("thing", Check.thingThrows(z, 2, what), true);
            Check.due("thing", Check.thingThrows(z, -1, what), true);
            Check.due("ending", Check.endingThrows(z, 2, what), true);
            Check.due("ending", Check.endingThrows(z, -1, what), true);
        }
        Check.due("thing", Check.thingThrows(z, 0, 6), true);
        Check.due("ending", Check.endingThrows(z, 0, 7), true);
        Check.due("day", z.now(0), 3);
        Check.due("put", z.now(2), 1);
        Check.due("coin", z.now(3), 18);
        Check.due("tape", z.count(5), 7);
        Check.due("fault", z.fault(), 0);
        Check.due("sentence", z.said(-1), 1);
        Check.due("undo", z.undo(), 2);
    }
}
