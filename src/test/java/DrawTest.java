/** Promises 34 and 35: drawn, odds. */
public final class DrawTest {
    private static final String TEXT = "kind k;kind l;man m 20;man n 20;man o 20;thing s m k 2;thing t n l 3;thing u o k 1 l 1;"
            + "ending a m 3 k 2;ending b n 4 l 2;ending c o 5 k 1;ending d m 6 l 9;ending e n 7 k 1 l 1;false c 2;";

    public static void main(String[] args) {
        firstDraws();
        wrongInputs();
        likeTheDeeds();
        odds();
        lastDays();
        Check.finish();
    }

    private static int x;

    private static int draw(int n) {
        x = x * 1103515245 + 12345;
        return (x >>> 8) % n;
    }

    private static void firstDraws() {
        // The seed 1 becomes 1103527590: shifted by 8 that is 4310654, of 3: 2; then -1743377567 (of 3: 1), ..
        x = 1;
        Check.due("of 3", draw(3), 2);
        Check.due("seed", x, 1103527590);
        Check.due("of 5", draw(5), (2524885223L >> 8) % 5);
    }

    private static void wrongInputs() {
        EndingMarket y = Check.of(TEXT);
        Check.due("drawn 0", y.drawn(0, 1), -1);
        Check.due("drawn -1", y.drawn(-1, 1), -1);
        Check.due("drawn 61", y.drawn(61, 1), -1);
        Check.due("odds of none", y.odds(3, 1, 1), -1);
        Check.due("odds of none", y.odds(-1, 1, 1), -1);
        Check.due("odds 0", y.odds(0, 0, 1), -1);
        Check.due("odds 31", y.odds(0, 31, 1), -1);
        Check.due("day", y.now(0), 0);
        Check.due("nothing to undo", y.undo(), -1);
        Check.market(y, "man m 1;thing t m;");
        Check.due("no endings", y.drawn(1, 1), -1);
        Check.due("no endings", y.odds(0, 1, 1), -1);
        Check.market(y, "man m 1;ending e m 1;");
        Check.due("no things", y.drawn(1, 1), -1);
    }

    /** What is drawn, done by buy, put and days. */
    private static void live(EndingMarket z, int n, int seed) {
        x = seed;
        // Asked for once: an object is used for 512 calls at most.
        int men = z.count(1);
        int things = z.count(2);
        int endings = z.count(3);
        for (int i = 0; i < n; i++) {
            for (int m = 0; m < men; m++) {
                int deed = draw(3);
                if (deed == 0) {
                    z.buy(m, draw(endings));
                } else if (deed == 1) {
                    int e = draw(endings);
                    z.put(m, e, draw(things));
                }
            }
            z.days(1);
        }
    }

    private static void likeTheDeeds() {
        int[] seeds = {0, 1, -1, 12345, Integer.MIN_VALUE, Integer.MAX_VALUE, 77777};
        for (int seed : seeds) {
            for (int n = 1; n <= 60; n += 59) {
                EndingMarket y = Check.of(TEXT);
                EndingMarket z = Check.of(TEXT);
                Check.due("drawn " + n, y.drawn(n, seed), n);
                live(z, n, seed);
                same(y, z, "drawn " + n + " " + seed);
                Check.due("undo", y.undo(), 0);
                same(y, Check.of(TEXT), "undone");
            }
        }
    }

    private static void same(EndingMarket y, EndingMarket z, String call) {
        for (int what = 0; what < 6; what++) {
            Check.due(call + " now " + what, y.now(what), z.now(what));
        }
        for (int what = 0; what < 5; what++) {
            for (int m = 0; m < 3; m++) {
                Check.due(call + " man " + m + " " + what, y.man(m, what), z.man(m, what));
            }
        }
        for (int what = 0; what < 7; what++) {
            for (int e = 0; e < 5; e++) {
                Check.due(call + " ending " + e + " " + what, y.ending(e, what), z.ending(e, what));
            }
        }
    }

    private static void odds() {
        EndingMarket y = Check.of(TEXT);
        for (int t = 0; t < 3; t++) {
            int ended = 0;
            for (int i = 0; i < 30; i++) {
                EndingMarket z = Check.of(TEXT);
                live(z, 20, 500 + i);
                ended += z.now(1) >> t & 1;
            }
            Check.due("odds " + t, y.odds(t, 30, 500), ended);
        }
        Check.due("nothing was done", y.now(0) + y.now(2), 0);
        // One man, one ending of five that fits: whether the thing is ended may hang on the last of the days.
        String one = "kind k;man m 1;thing t m k 1;ending a m 1;ending b m 1;ending c m 1;ending d m 1;ending e m 1 k 1;";
        for (int seed = 0; seed < 150; seed++) {
            EndingMarket z = Check.of(one);
            int odds = z.odds(0, 1, seed);
            live(z, 20, seed);
            Check.due("odds by seed " + seed, odds, z.now(1));
        }
        for (int n = 1; n <= 30; n++) {
            oddsOf(n);
        }
        EndingMarket z = Check.of(TEXT);
        int ended = z.odds(0, 1, Integer.MAX_VALUE) + z.odds(0, 1, Integer.MIN_VALUE);
        Check.due("the seeds go round", z.odds(0, 2, Integer.MAX_VALUE), ended);
    }

    private static void oddsOf(int n) {
        EndingMarket y = Check.of(TEXT);
        int all = 0;
        for (int seed = 0; seed < 3 * n; seed++) {
            all += y.odds(2, 1, seed);
        }
        Check.due("odds of " + n, y.odds(2, n, 0) + y.odds(2, n, n) + y.odds(2, n, 2 * n), all);
    }

    private static void lastDays() {
        EndingMarket y = Check.of(TEXT);
        for (int i = 0; i < 6; i++) {
            y.days(60);
        }
        y.days(38);
        EndingMarket z = Check.of(TEXT);
        for (int i = 0; i < 6; i++) {
            z.days(60);
        }
        z.days(38);
        live(z, 2, 9);
        Check.due("odds of two days", y.odds(0, 1, 9), z.now(1) & 1);
        Check.due("drawn", y.drawn(60, 9), 2);
        same(y, z, "last days");
        Check.due("none left", y.drawn(1, 9), 0);
        Check.due("undo", y.undo(), 7);
        Check.due("day", y.now(0), 398);
        y.drawn(2, 9);
        int open = y.thing(1, 1);
        Check.due("odds without days", y.odds(1, 7, 9), open == 0 ? 7 : 0);
    }
}
