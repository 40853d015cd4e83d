/** Promises 34 to 42, sentence by sentence. */
public final class LastPromisesTest {
    // Two kinds, three men, three things (nothing is open in u), four endings.
    private static final String TEXT = "kind k;kind l;man m 9;man n 7;man o 0;thing s m k 5;thing t n k 3 l 2;thing u m;"
            + "ending a m 2 k 4;ending b m 3 k 9;ending c n 4 l 2;ending d n 5;false a 2;dusk 1;";
    private static final int[] NO_NUMBERS = {Integer.MIN_VALUE, Integer.MIN_VALUE + 1, -33, -32, -2, -1, 10, 11, 16, 31, 32, 33,
        64, 256, 1 << 30, Integer.MAX_VALUE};

    public static void main(String[] args) {
        Bounds.run(LastPromisesTest.class);
    }

    private static void pass(EndingMarket x, int days) {
        for (int gone = 0; gone < days; gone += 60) {
            x.days(Math.min(60, days - gone));
        }
    }

    private static void told(EndingMarket x, int... due) {
        for (int what = 0; what < 4; what++) {
            Check.due("told " + what, x.told(what), due[what]);
        }
    }

    @Says(at = "Promise 34: drawn", quote = "n (1 to 60) DAYS DRAWN by a seed: how many went by;")
    private static void drawnDays() {
        EndingMarket x = Check.of(TEXT);
        Check.due("1", x.drawn(1, 7), 1);
        Check.due("59", x.drawn(59, 7), 59);
        Check.due("60", x.drawn(60, 7), 60);
        Check.due("day", x.now(0), 120);
        Check.due("three can be undone", x.undo(), 2);
        pass(x, 338);
        Check.due("day", x.now(0), 398);
        Check.due("1 of 2", x.drawn(1, 7), 1);
        Check.due("1 of 60", x.drawn(60, 7), 1);
        Check.due("0 of 60", x.drawn(60, 7), 0);
        Check.due("0 of 1", x.drawn(1, 7), 0);
        Check.due("day", x.now(0), 400);
    }

    @Says(at = "Promise 34: drawn", quote = "NONE: not as told, no ENDINGS, no THINGS.")
    private static void notDrawn() {
        EndingMarket x = Check.of(TEXT);
        int[] none = {0, -1, 61, 62, 400, Integer.MIN_VALUE, Integer.MAX_VALUE};
        for (int n : none) {
            Check.due("drawn " + n, x.drawn(n, 7), -1);
        }
        Check.due("none went by", x.now(0), 0);
        Check.due("nothing was done", x.undo(), -1);
        pass(x, 400);
        Check.due("all are over, and not as told", x.drawn(61, 7), -1);
        Check.due("all are over", x.drawn(60, 7), 0);
        EndingMarket noEndings = Check.of("kind k;man m 9;thing t m k 5;");
        Check.due("no endings", noEndings.drawn(1, 7), -1);
        EndingMarket noThings = Check.of("kind k;man m 9;ending e m 5 k 5;");
        Check.due("no things", noThings.drawn(1, 7), -1);
        Check.due("none went by", noEndings.now(0) + noThings.now(0), 0);
        EndingMarket both = Check.of("man m 9;thing t m;ending e m 5;");
        Check.due("one of each", both.drawn(1, 7), 1);
        Check.due("neither", new EndingMarket().drawn(1, 7), -1);
    }

    @Says(at = "Promise 35: odds", quote = "Of n (1 to 30) seeds x, x and 1, .. by how many nothing is open in a THING behind 20 DAYS DRAWN "
            + "from now on;")
    private static void theOdds() {
        EndingMarket x = Check.of(TEXT);
        Check.due("u, by one", x.odds(2, 1, 7), 1);
        Check.due("u, by all of 30", x.odds(2, 30, 7), 30);
        for (int t = 0; t < 2; t++) {
            for (int n = 1; n <= 30; n++) {
                Check.due("odds " + t + " " + n, Check.of(TEXT).odds(t, n, 100), byHand(t, n, 100, 20));
            }
        }
        // The seeds go round, as an int does.
        Check.due("from the greatest on", Check.of(TEXT).odds(0, 9, Integer.MAX_VALUE - 3), byHand(0, 9, Integer.MAX_VALUE - 3, 20));
        Check.due("from -5 on", Check.of(TEXT).odds(1, 9, -5), byHand(1, 9, -5, 20));
        Check.due("nothing was done", x.now(0) + x.now(2) + x.undo(), -1);
        // What was drawn behind 20 DAYS is what counts: what goes on at the end of the last one, too.
        int lessIsUnlike = 0;
        int moreIsUnlike = 0;
        for (int seed = 0; seed < 300; seed++) {
            int odds = Check.of(MANY).odds(0, 1, seed);
            Check.due("seed " + seed, odds, endedBehind(20, seed));
            lessIsUnlike += odds == endedBehind(19, seed) ? 0 : 1;
            moreIsUnlike += odds == endedBehind(21, seed) ? 0 : 1;
        }
        Check.due("by some a day less would be another answer", lessIsUnlike > 0, true);
        Check.due("by some a day more would be", moreIsUnlike > 0, true);
        // From now on; and no more DAYS than are left.
        EndingMarket late = Check.of(TEXT);
        pass(late, 390);
        late.put(0, 0, 0);
        Check.due("ten days are left", late.odds(0, 1, 3), lateByHand(3));
        pass(late, 10);
        Check.due("none is left: as it is", late.odds(2, 30, 3) * 100 + late.odds(0, 30, 3), 3000);
    }

    // One of five ENDINGS fits: whether the THING is ended may hang on the last DAY.
    private static final String MANY = "kind k;man m 9;thing t m k 5;ending e m 1 k 5;ending f m 1;ending g m 1;ending h m 1;"
            + "ending i m 1;";

    private static int endedBehind(int days, int seed) {
        EndingMarket y = Check.of(MANY);
        y.drawn(days, seed);
        return y.now(1);
    }

    private static int byHand(int t, int n, int seed, int days) {
        int ended = 0;
        for (int i = 0; i < n; i++) {
            EndingMarket y = Check.of(TEXT);
            y.drawn(days, seed + i);
            ended += y.now(1) >> t & 1;
        }
        return ended;
    }

    private static int lateByHand(int seed) {
        EndingMarket y = Check.of(TEXT);
        pass(y, 390);
        y.put(0, 0, 0);
        Check.due("only ten", y.drawn(20, seed), 10);
        return y.now(1) & 1;
    }

    @Says(at = "Promise 35: odds", quote = "NONE: no such ones, no ENDINGS.")
    private static void noOdds() {
        EndingMarket x = Check.of(TEXT);
        Check.due("one thing more", x.odds(3, 1, 7), -1);
        for (int t : NO_NUMBERS) {
            Check.due("thing " + t, x.odds(t, 1, 7), -1);
        }
        int[] none = {0, -1, 31, 32, 60, Integer.MIN_VALUE, Integer.MAX_VALUE};
        for (int n : none) {
            Check.due(n + " seeds", x.odds(2, n, 7), -1);
        }
        EndingMarket y = Check.of("kind k;man m 9;thing t m;");
        Check.due("no endings", y.odds(0, 1, 7), -1);
        Check.market(y, "kind k;man m 9;thing t m;ending e m 1;");
        Check.due("one", y.odds(0, 1, 7), 1);
        Check.due("no things", new EndingMarket().odds(0, 1, 7), -1);
    }

    @Says(at = "Promise 36: ledger", quote = "The tape is a LEDGER: it is judged, all staying as it is (lives 0), or lived as far as it is "
            + "not WRONG (1):")
    private static void judgedOrLived() {
        String text = "m puts b s;day 2;n buys a;n buys d;day 5;";
        EndingMarket x = Check.of(TEXT);
        Check.due("wrong is the fourth", Check.ledger(x, text, 0), 3);
        Check.due("day", x.now(0), 0);
        Check.due("put", x.now(2), 0);
        Check.due("coin", x.man(0, 0) * 10 + x.man(1, 0), 97);
        Check.due("price", x.ending(0, 1), 2);
        Check.due("nothing to undo", x.undo(), -1);
        Check.due("wrong is the fourth", Check.ledger(x, text, 1), 3);
        Check.due("day: not the fifth line's", x.now(0), 2);
        Check.due("put", x.now(2), 2);
        Check.due("coin: the price then was 0", x.man(0, 0) * 10 + x.man(1, 0), 97);
        Check.due("who has a", x.ending(0, 0), 1);
        Check.due("as one", x.undo(), 0);
        Check.due("day", x.now(0), 0);
        Check.due("who has a", x.ending(0, 0), 0);
        Check.due("none is put", x.now(2), 0);
    }

    @Says(at = "Promise 36: ledger", quote = "the LINE that is WRONG (from 0); NONE: none;")
    private static void theWrongLine() {
        for (int right = 0; right < 40; right++) {
            EndingMarket x = Check.of(TEXT);
            String text = Check.times(right, "day 1;") + "m buys a;" + Check.times(39 - right, "day 1;");
            Check.due("wrong is " + right, Check.ledger(x, text, 0), right);
        }
        EndingMarket x = Check.of(TEXT);
        Check.due("none", Check.ledger(x, Check.times(40, "day 1;"), 0), -1);
        Check.due("no lines", Check.ledger(x, "", 0), -1);
        Check.due("no lines", Check.ledger(x, "", 1), -1);
        Check.due("the first of two", Check.ledger(x, "m buys a;m buys b;", 0), 0);
    }

    @Says(at = "Promise 36: ledger", quote = "-2 less the place of a FAULT;")
    private static void aLedgerWithAFault() {
        EndingMarket x = Check.of(TEXT);
        Check.due("at 0", Check.ledger(x, ";", 1), -2);
        Check.due("at 1", Check.ledger(x, "\n;", 1), -3);
        Check.due("at 400", Check.ledger(x, Check.times(401, " "), 1), -402);
        Check.due("behind good lines", Check.ledger(x, "day 1;m puts b s;day", 1), -22);
        Check.due("behind a wrong line", Check.ledger(x, "m buys a;day", 1), -14);
        Check.due("none is lived", x.now(0) + x.now(2), 0);
        Check.due("nothing to undo", x.undo(), -1);
        Check.due("the tape is empty", x.count(5), 0);
    }

    @Says(at = "Promise 36: ledger", quote = "-1000: another lives (the tape stays).")
    private static void anotherLives() {
        EndingMarket x = Check.of(TEXT);
        Check.feed(x, "day 3;");
        int[] lives = {2, -1, 3, 256, Integer.MIN_VALUE, Integer.MAX_VALUE};
        for (int n : lives) {
            Check.due("ledger " + n, x.ledger(n), -1000);
            Check.due("the tape stays", x.count(5), 6);
        }
        Check.due("nothing is told", x.told(0), -1);
        Check.due("no day", x.now(0), 0);
        Check.due("it is judged", x.ledger(0), -1);
        Check.due("empty", x.count(5), 0);
        Check.due("an empty one", x.ledger(2), -1000);
        Check.feed(x, "day 3;");
        Check.due("it is lived", x.ledger(1), -1);
        Check.due("day", x.now(0), 3);
    }

    @Says(at = "Promise 37: told", quote = "Of the latest ledger() that had no FAULT (and was not -1000):")
    private static void theLatestLedger() {
        EndingMarket x = Check.of(TEXT);
        Check.ledger(x, "day 2;m buys a;", 0);
        told(x, 2, 1, 2, 4);
        Check.ledger(x, "day 3;m", 0);
        told(x, 2, 1, 2, 4);
        Check.ledger(x, "m puts b s;day 3;;", 1);
        told(x, 2, 1, 2, 4);
        Check.feed(x, "day 3;");
        x.ledger(2);
        told(x, 2, 1, 2, 4);
        x.ledger(0);
        told(x, 0, 1, 3, 4);
        Check.ledger(x, "", 0);
        told(x, 0, 0, 0, 4);
        x.days(9);
        told(x, 0, 0, 0, 4);
        Check.ledger(x, "", 1);
        told(x, 0, 0, 9, 4);
    }

    @Says(at = "Promise 37: told", quote = "0 why it was WRONG (0: it was not; as for buying, 10 more as for putting; 21: fewer DAYS are left),")
    private static void whyItWasWrong() {
        String[] texts = {"day 1;", "m puts b s;n buys b;", "m buys a;", "o buys a;", "m puts b s;m puts b s;", "m puts c s;",
            "m puts a t;", "n puts d t;", "m puts a u;"};
        int[] why = {0, 1, 2, 3, 11, 12, 12, 13, 13};
        for (int i = 0; i < texts.length; i++) {
            for (int lives = 0; lives < 2; lives++) {
                EndingMarket x = Check.of(TEXT);
                int wrong = Check.ledger(x, texts[i], lives);
                Check.due("right or wrong: " + texts[i], wrong == -1, why[i] == 0);
                Check.due("why: " + texts[i], x.told(0), why[i]);
            }
        }
        // DAYS: as many as are left, and one more.
        EndingMarket x = Check.of(TEXT);
        pass(x, 350);
        Check.due("50 of 50", Check.ledger(x, "day 50;", 0), -1);
        Check.due("why", x.told(0), 0);
        Check.due("51 of 50", Check.ledger(x, "day 51;", 0), 0);
        Check.due("why", x.told(0), 21);
        Check.due("49 and 1", Check.ledger(x, "day 49;day 1;", 0), -1);
        Check.due("49 and 2", Check.ledger(x, "day 49;day 2;", 1), 1);
        Check.due("why", x.told(0), 21);
        Check.due("the 49 are lived, none of the 2", x.now(0), 399);
        Check.due("1 of 1", Check.ledger(x, "day 1;", 1), -1);
        Check.due("1 of 0", Check.ledger(x, "day 1;", 1), 0);
        Check.due("why", x.told(0), 21);
    }

    @Says(at = "Promise 37: told", quote = "1 how many LINES are ahead of the one that is WRONG (all, if none is),")
    private static void howManyAhead() {
        EndingMarket x = Check.of(TEXT);
        Check.ledger(x, "m buys a;day 1;", 0);
        Check.due("the first is wrong", x.told(1), 0);
        Check.ledger(x, "day 1;m buys a;day 1;", 0);
        Check.due("the second is", x.told(1), 1);
        Check.ledger(x, Check.times(39, "day 1;") + "m buys a;", 0);
        Check.due("the fortieth is", x.told(1), 39);
        Check.ledger(x, Check.times(40, "day 1;"), 0);
        Check.due("none of forty is", x.told(1), 40);
        Check.ledger(x, "day 1;", 0);
        Check.due("all", x.told(1), 1);
        Check.ledger(x, "", 0);
        Check.due("no lines", x.told(1), 0);
    }

    @Says(at = "Promise 37: told", quote = "2 the DAY then, 3 THINGS in which nothing is open then, as bits.")
    private static void whatIsSoThen() {
        EndingMarket x = Check.of(TEXT);
        Check.ledger(x, "m puts b s;", 0);
        told(x, 0, 1, 0, 5);
        Check.ledger(x, "m puts a s;day 1;m puts b s;", 0);
        told(x, 0, 3, 1, 5);
        Check.ledger(x, "m puts a s;day 1;m puts b s;day 1;", 0);
        told(x, 0, 4, 2, 4);
        Check.ledger(x, "day 7;m puts b s;m buys a;day 1;", 1);
        told(x, 2, 2, 7, 5);
        Check.ledger(x, "m buys a;", 1);
        told(x, 2, 0, 7, 5);
        x.undo();
        told(x, 2, 0, 7, 5);
        EndingMarket all = Check.of("man m 1;thing a m;thing b m;thing c m;thing d m;thing e m;thing f m;thing g m;thing h m;");
        Check.ledger(all, Check.times(6, "day 60;") + "day 40;", 0);
        told(all, 0, 7, 400, 255);
    }

    @Says(at = "Promise 37: told", quote = "NONE: another what, or ahead of any.")
    private static void nothingTold() {
        EndingMarket x = Check.of(TEXT);
        for (int what = -1; what < 5; what++) {
            Check.due("ahead of any", x.told(what), -1);
        }
        Check.ledger(x, "day", 0);
        x.ledger(2);
        for (int what = 0; what < 4; what++) {
            Check.due("ahead of any yet", x.told(what), -1);
        }
        Check.ledger(x, "", 0);
        told(x, 0, 0, 0, 4);
        Check.due("another what", x.told(4), -1);
        for (int n : NO_NUMBERS) {
            Check.due("told " + n, x.told(n), -1);
        }
    }

    @Says(at = "Promise 38: sentence", quote = "The tape is the SENTENCE now: how many ONES (each not, bracket and other one);")
    private static void howManyOnes() {
        EndingMarket x = Check.of(TEXT);
        String[] texts = {"ended", "not ended", "(ended)", "not(ended)", "of m and has k", "((ended))or not not of m",
            "open<1 or pages=0 or number>0 or fits a"};
        int[] ones = {1, 2, 2, 3, 2, 6, 4};
        for (int i = 0; i < texts.length; i++) {
            Check.due(texts[i], Check.sentence(x, texts[i]), ones[i]);
            Check.due("fault", x.fault(), 0);
            Check.due("tape", x.count(5), 0);
        }
        Check.due("twenty", Check.sentence(x, "ended" + Check.times(19, " or ended")), 20);
        Check.due("the latest", x.said(-1), 1);
        Check.sentence(x, "of n");
        Check.due("the latest", x.said(0), 1);
    }

    @Says(at = "Promise 38: sentence", quote = "-1 less the place of a FAULT: it stays.")
    private static void theSentenceStays() {
        EndingMarket x = Check.of(TEXT);
        Check.due("none yet: at 0", Check.sentence(x, ""), -1);
        Check.due("none yet", x.said(-1), -1);
        Check.due("of n", Check.sentence(x, "of n"), 1);
        String[] texts = {"", " ", "of m or", "of m or of x", "of m;", Check.times(201, " "), Check.times(9, "not ") + "ended"};
        int[] places = {0, 1, 7, 11, 4, 200, 32};
        for (int i = 0; i < texts.length; i++) {
            Check.due("a fault", Check.sentence(x, texts[i]), -1 - places[i]);
            Check.due("tape", x.count(5), 0);
            Check.due("it stays", x.said(-1) * 10 + x.said(0), 11);
        }
        Check.due("nothing else changes", x.now(0) + x.undo(), -1);
    }

    @Says(at = "Promise 39: said", quote = "THINGS of which it may be said: how many (k NONE), or the k-th.")
    private static void ofWhichItMayBeSaid() {
        EndingMarket x = Check.of(TEXT);
        Check.sentence(x, "of m");
        Check.due("how many", x.said(-1), 2);
        Check.due("the first", x.said(0), 0);
        Check.due("the second", x.said(1), 2);
        Check.sentence(x, "of o");
        Check.due("none", x.said(-1), 0);
        Check.sentence(x, "ended");
        Check.due("u", x.said(-1) * 10 + x.said(0), 12);
        x.put(0, 1, 0);
        Check.due("s and u", x.said(-1), 2);
        Check.due("s", x.said(0), 0);
        Check.due("u", x.said(1), 2);
        EndingMarket all = Check.of("man m 1;thing a m;thing b m;thing c m;thing d m;thing e m;thing f m;thing g m;thing h m;");
        Check.sentence(all, "of m");
        Check.due("all eight", all.said(-1), 8);
        Check.due("the eighth", all.said(7), 7);
    }

    @Says(at = "Promise 39: said", quote = "NONE: there is no SENTENCE, none such.")
    private static void notSaid() {
        EndingMarket x = Check.of(TEXT);
        for (int k = -2; k < 4; k++) {
            Check.due("no sentence", x.said(k), -1);
        }
        Check.due("no sentence in a new object", new EndingMarket().said(-1), -1);
        Check.due("nor there with a fault", Check.sentence(x, "of x"), -4);
        Check.due("no sentence", x.said(-1), -1);
        Check.sentence(x, "of m");
        Check.due("a third of two", x.said(2), -1);
        for (int n : NO_NUMBERS) {
            Check.due("said " + n, x.said(n), n == -1 ? 2 : -1);
        }
        Check.sentence(x, "of o");
        Check.due("a first of none", x.said(0), -1);
        Check.market(x, TEXT);
        Check.due("no sentence again", x.said(-1), -1);
    }

    @Says(at = "Promise 40: image", quote = "MARKET, all that is so and the SENTENCE are kept in place k (0, 1): true;")
    private static void keptInPlace() {
        EndingMarket x = Check.of(TEXT);
        x.buy(0, 2);
        x.put(0, 0, 0);
        x.days(1);
        Check.sentence(x, "pages=1");
        Check.due("place 0", x.image(0), true);
        Check.due("nothing changes", x.undo(), 2);
        Check.market(x, "kind z;man y 1;thing w y z 1;");
        Check.due("place 1", x.image(1), true);
        Check.due("restore 0", x.restore(0), true);
        int[] count = {2, 3, 3, 4, 1, 0};
        int[] now = {1, 4, 1, 16, 6, 0};
        for (int what = 0; what < 6; what++) {
            Check.due("count " + what, x.count(what), count[what]);
            Check.due("now " + what, x.now(what), now[what]);
        }
        Check.due("who has c", x.ending(2, 0), 0);
        Check.due("bought", x.ending(2, 5) * 10 + x.man(0, 3), 11);
        Check.due("coin", x.man(0, 0) * 100 + x.man(1, 0), 511);
        Check.due("put on day 0", x.ending(0, 3), 0);
        Check.due("puts", x.man(0, 4), 1);
        Check.due("prices: b was not bought, c was", x.ending(1, 1) * 10 + x.ending(2, 1), 24);
        Check.due("what is said", x.said(-1) * 10 + x.said(0), 10);
        Check.due("what goes on in the dark", x.later(0, 2), 5);
        Check.due("names", Check.ledger(x, "m buys d;o buys d;", 0), 1);
        Check.due("restore 1", x.restore(1), true);
        Check.due("things", x.count(2), 1);
        Check.due("names", Check.sentence(x, "of y and has z"), 2);
        Check.due("and no others", Check.sentence(x, "of m"), -4);
        // A later one in the same place takes it; an empty MARKET is kept as well.
        x.market();
        Check.due("place 0", x.image(0), true);
        x.restore(1);
        Check.due("restore 0", x.restore(0), true);
        Check.due("things", x.count(2), 0);
    }

    @Says(at = "Promise 40: image", quote = "false: no such one.")
    private static void noSuchPlace() {
        EndingMarket x = Check.of(TEXT);
        Check.due("place 2", x.image(2), false);
        for (int k : NO_NUMBERS) {
            Check.due("place " + k, x.image(k), false);
        }
        Check.due("nothing is kept", x.restore(0) || x.restore(1), false);
        Check.due("place 0", x.image(0), true);
        Check.due("place 1", x.image(1), true);
    }

    @Says(at = "Promise 41: restore", quote = "They are as kept in place k (the tape, and what other calls told last, stays; nothing can be "
            + "undone): true;")
    private static void asKept() {
        EndingMarket x = Check.of(TEXT);
        x.image(0);
        x.put(0, 1, 0);
        x.days(3);
        Check.sentence(x, "of m");
        x.ends(1);
        x.street(4);
        x.street(1);
        x.covers(2);
        x.haggle(0, 3);
        Check.was(x, "\5\0");
        Check.ledger(x, "day 2;m buys a;", 0);
        Check.market(x, "dusk 10;");
        Check.feed(x, "of n");
        Check.due("restore", x.restore(0), true);
        Check.due("day", x.now(0), 0);
        Check.due("put", x.now(2), 0);
        Check.due("no sentence", x.said(-1), -1);
        Check.due("nothing can be undone", x.undo(), -1);
        Check.due("the tape stays", x.count(5), 4);
        Check.due("row", x.row(0) * 10 + x.row(1), 2);
        Check.due("has", x.has(0), -1);
        Check.due("tray", x.tray(), 1);
        Check.due("ask", x.ask(), 0);
        Check.due("rounds", x.rounds(), 1);
        told(x, 2, 1, 5, 5);
        Check.due("fault", x.fault(), 2);
        Check.due("the tape is read by the names as kept", x.sentence(), 1);
        Check.due("of n", x.said(0), 1);
        x.days(5);
        Check.due("as often as one likes", x.restore(0), true);
        Check.due("day", x.now(0), 0);
        Check.due("nothing can be undone", x.undo(), -1);
        Check.due("no sentence", x.said(-1), -1);
        x.days(5);
        Check.due("what is done then can be", x.undo(), 0);
    }

    @Says(at = "Promise 41: restore", quote = "false: no such one, or nothing is kept there.")
    private static void nothingKept() {
        EndingMarket x = Check.of(TEXT);
        x.days(1);
        Check.due("nothing in 0", x.restore(0), false);
        Check.due("nothing in 1", x.restore(1), false);
        Check.due("no 2", x.restore(2), false);
        for (int k : NO_NUMBERS) {
            Check.due("restore " + k, x.restore(k), false);
        }
        Check.due("it is day 1 yet", x.now(0), 1);
        Check.due("and can be undone", x.undo(), 0);
        x.image(1);
        Check.due("nothing in 0", x.restore(0), false);
        Check.due("something in 1", x.restore(1), true);
        x.image(0);
        Check.due("something in 0", x.restore(0), true);
        Check.due("a new market takes none away", Check.market(x, ""), 0);
        Check.due("something in 1", x.restore(1), true);
        Check.due("things", x.count(2), 3);
    }

    @Says(at = "Promise 42: count", quote = "0 KINDS, 1 MEN, 2 THINGS, 3 ENDINGS, 4 'dusk', 5 bytes of the tape.")
    private static void counted() {
        EndingMarket x = Check.of("kind k;kind l;man m 9;thing s m;thing t m;thing u m;ending a m 1;ending b m 1;ending c m 1;"
                + "ending d m 1;dusk 7;");
        x.feed(0, 0, 0, 0, 0);
        int[] due = {2, 1, 3, 4, 7, 20};
        for (int what = 0; what < 6; what++) {
            Check.due("count " + what, x.count(what), due[what]);
        }
        x.end(19);
        Check.due("bytes", x.count(5), 19);
        x.end(0);
        Check.due("bytes", x.count(5), 0);
        Check.due("one that is put counts, too", Check.market(x, "kind k;man m 9;thing t m k 1;ending a m 1 k 1;"), 4);
        x.put(0, 0, 0);
        Check.due("endings", x.count(3), 1);
        Check.due("things", x.count(2), 1);
        Check.due("dusk without", x.count(4), 1);
    }

    @Says(at = "Promise 42: count", quote = "NONE for another what.")
    private static void notCounted() {
        EndingMarket x = Check.of(TEXT);
        Check.due("count 5", x.count(5), 0);
        Check.due("count 6", x.count(6), -1);
        for (int n : NO_NUMBERS) {
            Check.due("count " + n, x.count(n), -1);
        }
    }
}
