/** Promises 16 to 33, sentence by sentence. */
public final class SecondPromisesTest {
    // Two kinds, three men, three things (nothing is open in u), four endings.
    private static final String TEXT = "kind k;kind l;man m 9;man n 7;man o 0;thing s m k 5;thing t n k 3 l 2;thing u m;"
            + "ending a m 2 k 4;ending b m 3 k 9;ending c n 4 l 2;ending d n 5;false a 2;dusk 1;";
    private static final int[] NO_NUMBERS = {Integer.MIN_VALUE, Integer.MIN_VALUE + 1, -33, -32, -2, -1, 10, 11, 16, 31, 32, 33,
        64, 256, 1 << 30, Integer.MAX_VALUE};
    // Sets that hold no such THING, if there are three.
    private static final int[] NO_SETS = {Integer.MIN_VALUE, Integer.MIN_VALUE + 1, -8, -7, -2, -1, 8, 9, 15, 16, 255, 256, 257,
        1 << 30, Integer.MAX_VALUE};

    public static void main(String[] args) {
        Bounds.run(SecondPromisesTest.class);
    }

    private static void row(EndingMarket x, int... due) {
        for (int k = 0; k < due.length; k++) {
            Check.due("row " + k, x.row(k), due[k]);
        }
        Check.due("row " + due.length, x.row(due.length), -1);
    }

    @Says(at = "Promise 16: fits", quote = "Whether an ENDING that is not put FITS a THING: 1, 0;")
    private static void whetherItFits() {
        EndingMarket x = Check.of(TEXT);
        int[][] due = {{1, 1, 0}, {1, 1, 0}, {0, 1, 0}, {0, 0, 0}};
        for (int e = 0; e < 4; e++) {
            for (int t = 0; t < 3; t++) {
                Check.due("fits " + e + " " + t, x.fits(e, t), due[e][t]);
            }
        }
        x.put(0, 0, 0);
        Check.due("1 is open", x.fits(1, 0), 1);
        x.put(0, 1, 0);
        Check.due("put", x.fits(1, 0), -1);
        x.undo();
        x.put(1, 2, 1);
        Check.due("k is open in t", x.fits(1, 1), 1);
    }

    @Says(at = "Promise 16: fits", quote = "NONE: no such ones, it is put.")
    private static void nothingThatFits() {
        EndingMarket x = Check.of(TEXT);
        Check.due("one ending more", x.fits(4, 0), -1);
        Check.due("one thing more", x.fits(0, 3), -1);
        for (int n : NO_NUMBERS) {
            Check.due("ending " + n, x.fits(n, 0), -1);
            Check.due("thing " + n, x.fits(0, n), -1);
        }
        x.put(0, 0, 0);
        Check.due("put there", x.fits(0, 0), -1);
        Check.due("put elsewhere", x.fits(0, 1), -1);
        x.undo();
        Check.due("not put", x.fits(0, 1), 1);
    }

    @Says(at = "Promise 17: ends", quote = "CLOSES for a THING: the coin (0: nothing is open);")
    private static void theCoin() {
        EndingMarket x = Check.of(TEXT);
        Check.due("b", x.ends(0), 3);
        row(x, 1);
        Check.due("a and c", x.ends(1), 6);
        row(x, 0, 2);
        Check.due("nothing is open", x.ends(2), 0);
        row(x);
        x.days(4);
        Check.due("for nothing, though something is open", x.ends(0), 0);
        row(x, 1);
        x.put(0, 1, 0);
        Check.due("nothing is open now", x.ends(0), 0);
        row(x);
    }

    @Says(at = "Promise 17: ends", quote = "NONE: never, no such one.")
    private static void neverEnded() {
        EndingMarket x = Check.of(TEXT);
        Check.due("one thing more", x.ends(3), -1);
        for (int n : NO_NUMBERS) {
            Check.due("thing " + n, x.ends(n), -1);
        }
        Check.due("a and c", x.ends(1), 6);
        x.put(0, 0, 0);
        Check.due("b and c", x.ends(1), 7);
        x.put(0, 1, 0);
        Check.due("never: nothing closes k now", x.ends(1), -1);
        x.undo();
        x.put(1, 2, 1);
        Check.due("b alone", x.ends(1), 3);
        EndingMarket y = Check.of("kind k;man m 9;thing t m k 5;ending a m 1 k 4;");
        Check.due("never: 1 is left", y.ends(0), -1);
        EndingMarket z = Check.of("kind k;man m 9;thing t m k 5;");
        Check.due("never: no endings", z.ends(0), -1);
    }

    @Says(at = "Promise 18: row", quote = "The k-th ENDING (from 0) of the row by the latest ends() that was not NONE;")
    private static void theRow() {
        EndingMarket x = Check.of(TEXT);
        x.ends(1);
        row(x, 0, 2);
        x.ends(3);
        x.ends(-1);
        row(x, 0, 2);
        x.put(0, 0, 0);
        row(x, 0, 2);
        x.ends(1);
        row(x, 1, 2);
        x.put(0, 1, 0);
        Check.due("never: nothing closes k now", x.ends(1), -1);
        row(x, 1, 2);
        x.undo();
        x.undo();
        row(x, 1, 2);
        x.ends(2);
        row(x);
    }

    @Says(at = "Promise 18: row", quote = "NONE: none such, or ahead of any.")
    private static void noSuchRow() {
        EndingMarket x = Check.of(TEXT);
        for (int k = 0; k < 11; k++) {
            Check.due("ahead of any", x.row(k), -1);
        }
        x.ends(9);
        Check.due("ahead of any yet", x.row(0), -1);
        x.ends(0);
        Check.due("the only one", x.row(0), 1);
        Check.due("one more", x.row(1), -1);
        for (int n : NO_NUMBERS) {
            Check.due("row " + n, x.row(n), -1);
        }
        x.ends(1);
        Check.due("the second of two", x.row(1), 2);
        Check.due("a third", x.row(2), -1);
        x.ends(0);
        Check.due("a second of one", x.row(1), -1);
    }

    @Says(at = "Promise 19: street", quote = "STREET for some THINGS (bits): the coin;")
    private static void theStreet() {
        EndingMarket x = Check.of("kind k;man m 9;thing s m k 1;thing t m k 2;thing u m k 3;ending a m 9 k 1;ending b m 20 k 2;"
                + "ending c m 40 k 3;");
        int[] due = {0, 9, 20, 29, 40, 49, 60, 69};
        for (int set = 0; set < 8; set++) {
            Check.due("street " + set, x.street(set), due[set]);
            for (int t = 0; t < 3; t++) {
                Check.due("has " + t, x.has(t), (set >> t & 1) == 1 ? t : -1);
            }
        }
        EndingMarket y = Check.of("kind k;man m 9;thing t m k 1;ending a m 0 k 1;");
        Check.due("for nothing", y.street(1), 0);
        Check.due("which", y.has(0), 0);
    }

    @Says(at = "Promise 19: street", quote = "NONE: it can't be, no such ones.")
    private static void noSuchStreet() {
        EndingMarket x = Check.of(TEXT);
        Check.due("s alone", x.street(1), 3);
        Check.due("t: none closes all", x.street(2), -1);
        Check.due("s and t", x.street(3), -1);
        Check.due("all three", x.street(7), -1);
        Check.due("s and u", x.street(5), 3);
        for (int set : NO_SETS) {
            Check.due("street " + set, x.street(set), -1);
        }
        // Where all three together can be, no such ones are NONE yet.
        EndingMarket all = Check.of("kind k;man m 9;thing s m k 1;thing t m;thing u m;ending a m 1 k 1;");
        Check.due("all three", all.street(7), 1);
        for (int set : NO_SETS) {
            Check.due("street " + set, all.street(set), -1);
        }
        EndingMarket none = new EndingMarket();
        Check.due("no things", none.street(0), 0);
        Check.due("one of none", none.street(1), -1);
        EndingMarket y = Check.of("man m 1;thing a m;thing b m;thing c m;thing d m;thing e m;thing f m;thing g m;thing h m;");
        Check.due("eight", y.street(255), 0);
        Check.due("a ninth", y.street(256), -1);
        Check.due("a ninth, and the first", y.street(257), -1);
    }

    @Says(at = "Promise 20: has", quote = "Which ENDING a THING has by the latest street() that was not NONE;")
    private static void whatItHas() {
        EndingMarket x = Check.of(TEXT);
        x.street(1);
        Check.due("s", x.has(0), 1);
        x.street(2);
        x.street(8);
        x.street(-1);
        Check.due("s yet", x.has(0), 1);
        x.put(0, 1, 0);
        Check.due("s yet, though it is put", x.has(0), 1);
        x.street(1);
        Check.due("s needs none now", x.has(0), -1);
        x.undo();
        Check.due("as told last", x.has(0), -1);
        x.street(5);
        Check.due("s", x.has(0), 1);
        x.street(4);
        Check.due("u alone was asked for", x.has(0), -1);
    }

    @Says(at = "Promise 20: has", quote = "NONE: none, no such one, or ahead of any.")
    private static void whatHasNone() {
        EndingMarket x = Check.of(TEXT);
        for (int t = -1; t < 9; t++) {
            Check.due("ahead of any", x.has(t), -1);
        }
        x.street(2);
        Check.due("ahead of any yet", x.has(0), -1);
        x.street(5);
        Check.due("s", x.has(0), 1);
        Check.due("t was not asked for", x.has(1), -1);
        Check.due("u needs none", x.has(2), -1);
        Check.due("no such one", x.has(3), -1);
        for (int n : NO_NUMBERS) {
            Check.due("has " + n, x.has(n), -1);
        }
        Check.due("no such one", x.has(8), -1);
    }

    @Says(at = "Promise 21: covers", quote = "GOES WITH ALL of some THINGS (bits; those with nothing open left out): how many;")
    private static void theTray() {
        EndingMarket x = Check.of("kind k;kind l;man m 9;thing s m k 1;thing t m l 1;thing u m;ending a m 1 k 1;ending b m 1 l 1;");
        int[] many = {0, 1, 1, 2, 0, 1, 1, 2};
        int[] tray = {0, 1, 2, 3, 0, 1, 2, 3};
        for (int set = 0; set < 8; set++) {
            Check.due("covers " + set, x.covers(set), many[set]);
            Check.due("tray", x.tray(), tray[set]);
        }
        x.put(0, 0, 0);
        Check.due("s is left out now", x.covers(7), 1);
        Check.due("tray", x.tray(), 2);
    }

    @Says(at = "Promise 21: covers", quote = "NONE: it can't be, no such ones.")
    private static void noSuchTray() {
        EndingMarket x = Check.of("kind k;kind l;man m 9;thing s m k 1;thing t m l 1;thing u m;ending a m 1 k 1;ending b m 1 k 1 l 1;");
        Check.due("s", x.covers(1), 1);
        Check.due("t can't be", x.covers(2), -1);
        Check.due("s and t", x.covers(3), -1);
        Check.due("s and u", x.covers(5), 1);
        for (int set : NO_SETS) {
            Check.due("covers " + set, x.covers(set), -1);
        }
        // Where all three together can be, no such ones are NONE yet.
        EndingMarket all = Check.of("kind k;man m 9;thing s m k 1;thing t m;thing u m;ending a m 1 k 1;");
        Check.due("all three", all.covers(7), 1);
        for (int set : NO_SETS) {
            Check.due("covers " + set, all.covers(set), -1);
        }
        EndingMarket none = new EndingMarket();
        Check.due("no things", none.covers(0), 0);
        Check.due("one of none", none.covers(1), -1);
        EndingMarket y = Check.of("man m 1;thing a m;thing b m;thing c m;thing d m;thing e m;thing f m;thing g m;thing h m;");
        Check.due("eight", y.covers(255), 0);
        Check.due("a ninth", y.covers(256), -1);
        Check.due("a ninth, and the first", y.covers(257), -1);
    }

    @Says(at = "Promise 22: tray", quote = "Which, as bits, by the latest covers() that was not NONE;")
    private static void whichTray() {
        EndingMarket x = Check.of(TEXT);
        x.covers(1);
        Check.due("a", x.tray(), 1);
        x.covers(8);
        x.covers(-1);
        Check.due("a yet", x.tray(), 1);
        x.put(0, 0, 0);
        Check.due("a yet, though it is put", x.tray(), 1);
        x.put(0, 1, 0);
        x.put(1, 2, 1);
        Check.due("t can't be", x.covers(2), -1);
        Check.due("a yet", x.tray(), 1);
        Check.due("none is needed", x.covers(4), 0);
        Check.due("none", x.tray(), 0);
    }

    @Says(at = "Promise 22: tray", quote = "NONE ahead of any.")
    private static void noTray() {
        EndingMarket x = Check.of(TEXT);
        Check.due("ahead of any", x.tray(), -1);
        x.covers(8);
        Check.due("ahead of any yet", x.tray(), -1);
        x.covers(0);
        Check.due("none is needed", x.tray(), 0);
    }

    @Says(at = "Promise 23: was", quote = "WAS: THINGS, as bits;")
    private static void wasThings() {
        EndingMarket x = Check.of(TEXT);
        Check.due("s, by none", Check.was(x, "\5\0"), 1);
        Check.due("t, by c", Check.was(x, "\3\0\2"), 2);
        Check.due("u, by none", Check.was(x, "\0\0"), 4);
        Check.due("s, by b", Check.was(x, "\0\0\1"), 1);
        Check.due("t, by b and c", Check.was(x, "\0\0\2\1"), 2);
        Check.due("none", Check.was(x, "\2\0"), 0);
        EndingMarket y = Check.of("kind k;man m 1;thing a m k 1;thing b m k 2;thing c m k 3;thing d m k 4;thing e m k 5;"
                + "thing f m k 6;thing g m k 7;thing h m k 8;ending x m 1 k 8;");
        Check.due("all eight", Check.was(y, "\0\0"), 255);
        Check.due("the eighth", Check.was(y, "\10"), 128);
        Check.due("no things", Check.was(new EndingMarket(), ""), 0);
    }

    @Says(at = "Promise 23: was", quote = "NONE: not as told.")
    private static void wasNotAsTold() {
        EndingMarket x = Check.of(TEXT);
        String[] none = {"", "\5", "\5\0\4", "\5\0\377", "\0\0\0\0", "\0\0\0\1\0", "\5\0\40", "\5\0\200"};
        for (String bytes : none) {
            Check.due("was of " + bytes.length() + " bytes", Check.was(x, bytes), -1);
            Check.due("the tape is empty", x.count(5), 0);
        }
        Check.due("the last ending", Check.was(x, "\5\0\3"), 0);
        Check.due("two bytes", Check.was(x, "\5\0"), 1);
        EndingMarket y = new EndingMarket();
        Check.due("no endings", Check.was(y, "\0"), -1);
        Check.due("a full tape", Check.was(y, Check.times(940, "\0")), -1);
        Check.due("the tape is empty", y.count(5), 0);
    }

    @Says(at = "Promise 24: ask", quote = "ASK, by the latest was() above 0: the KIND;")
    private static void whatToAsk() {
        EndingMarket x = Check.of("kind j;kind k;man m 9;thing s m k 3;thing t m k 4;thing u m j 1 k 1;thing v m j 2 k 1;"
                + "ending e m 1 k 9;ending f m 1 j 9 k 9;");
        Check.due("s and t", Check.was(x, "\0\0\0"), 3);
        Check.due("k", x.ask(), 1);
        Check.due("u and v", Check.was(x, "\0\0\1"), 12);
        Check.due("j", x.ask(), 0);
        Check.due("none", Check.was(x, "\7\7"), 0);
        Check.due("j yet", x.ask(), 0);
        Check.due("s and t", Check.was(x, "\0\0\0"), 3);
        Check.due("not as told", Check.was(x, "\0"), -1);
        Check.due("none", Check.was(x, "\7\7"), 0);
        Check.due("k yet", x.ask(), 1);
        x.put(0, 0, 0);
        Check.due("as they were told", x.ask(), 1);
    }

    @Says(at = "Promise 24: ask", quote = "NONE: there is none, or ahead of any.")
    private static void nothingToAsk() {
        EndingMarket x = Check.of(TEXT);
        Check.due("ahead of any", x.ask(), -1);
        Check.was(x, "\7\7");
        Check.due("ahead of any above 0", x.ask(), -1);
        Check.was(x, "\0");
        Check.due("ahead of any above 0", x.ask(), -1);
        Check.was(x, "\5\0");
        Check.due("one thing", x.ask(), 0);
        Check.market(x, "man m 1;thing t m;");
        Check.due("as told last", x.ask(), 0);
        Check.due("a thing where there are no kinds", Check.was(x, ""), 1);
        Check.due("there is none", x.ask(), -1);
    }

    @Says(at = "Promise 25: haggle", quote = "HAGGLED by a MAN for an ENDING of another one: the PRICE;")
    private static void theBargain() {
        EndingMarket x = Check.of(TEXT);
        Check.due("4: 4 and 2", x.haggle(0, 2), 2);
        Check.due("5: 4 and 3", x.haggle(0, 3), 3);
        Check.due("2: 2 and 1", x.haggle(1, 0), 1);
        Check.due("3: 2 and 2", x.haggle(1, 1), 2);
        x.days(4);
        Check.due("by its price now: 0", x.haggle(0, 2), 0);
        Check.due("1: 2 and 0", x.haggle(0, 3), 0);
    }

    @Says(at = "Promise 25: haggle", quote = "NONE: never, it is put or his, no such ones.")
    private static void noBargain() {
        EndingMarket x = Check.of(TEXT);
        Check.due("never: 2 is above 0", x.haggle(2, 2), -1);
        Check.due("never: 1 is above 0", x.haggle(2, 0), -1);
        Check.due("his own", x.haggle(0, 0), -1);
        Check.due("his own", x.haggle(1, 3), -1);
        Check.due("one man more", x.haggle(3, 0), -1);
        Check.due("one ending more", x.haggle(0, 4), -1);
        for (int n : NO_NUMBERS) {
            Check.due("man " + n, x.haggle(n, 0), -1);
            Check.due("ending " + n, x.haggle(0, n), -1);
        }
        Check.due("not put", x.haggle(1, 0), 1);
        x.put(0, 0, 0);
        Check.due("put, by another one", x.haggle(1, 0), -1);
        Check.due("put, by him", x.haggle(0, 0), -1);
        x.buy(1, 1);
        Check.due("his own now", x.haggle(1, 1), -1);
        Check.due("not his any more", x.haggle(0, 1), 2);
    }

    @Says(at = "Promise 26: rounds", quote = "The ROUND in which they meet (from 1; 0: at once), by the latest haggle() that was not NONE;")
    private static void theRound() {
        EndingMarket x = Check.of("man m 99;man n 0;ending a n 0;ending b n 1;ending c n 3;ending d n 4;ending e n 99;");
        int[] due = {0, 1, 1, 2, 33};
        for (int e = 0; e < 5; e++) {
            x.haggle(0, e);
            Check.due("rounds for " + e, x.rounds(), due[e]);
        }
        x.haggle(1, 0);
        x.haggle(0, 5);
        x.haggle(2, 0);
        Check.due("as told last", x.rounds(), 33);
        x.buy(0, 3);
        Check.due("never: 66 is more than he has", x.haggle(1, 4), -1);
        x.haggle(0, 2);
        Check.due("the latest", x.rounds(), 1);
        x.haggle(0, 0);
        Check.due("at once", x.rounds(), 0);
    }

    @Says(at = "Promise 26: rounds", quote = "NONE ahead of any.")
    private static void noRound() {
        EndingMarket x = Check.of(TEXT);
        Check.due("ahead of any", x.rounds(), -1);
        x.haggle(0, 0);
        x.haggle(2, 2);
        Check.due("ahead of any yet", x.rounds(), -1);
        x.haggle(0, 2);
        Check.due("now", x.rounds(), 2);
    }

    @Says(at = "Promise 27: likes", quote = "How much a MAN LIKES an ENDING that is not put;")
    private static void howMuch() {
        EndingMarket x = Check.of(TEXT);
        int[][] due = {{4, 5, 0, 0}, {3, 3, 2, 0}, {0, 0, 0, 0}};
        for (int m = 0; m < 3; m++) {
            for (int e = 0; e < 4; e++) {
                Check.due("likes " + m + " " + e, x.likes(m, e), due[m][e]);
            }
        }
        x.put(0, 0, 0);
        Check.due("1 is open", x.likes(0, 1), 1);
    }

    @Says(at = "Promise 27: likes", quote = "NONE: no such ones, it is put.")
    private static void noLiking() {
        EndingMarket x = Check.of(TEXT);
        Check.due("one man more", x.likes(3, 0), -1);
        Check.due("one ending more", x.likes(0, 4), -1);
        for (int n : NO_NUMBERS) {
            Check.due("man " + n, x.likes(n, 0), -1);
            Check.due("ending " + n, x.likes(0, n), -1);
        }
        Check.due("not put", x.likes(1, 0), 3);
        x.put(0, 0, 0);
        Check.due("put", x.likes(0, 0), -1);
        Check.due("put, by another one", x.likes(1, 0), -1);
    }

    @Says(at = "Promise 28: gets", quote = "RINGS: which ENDING a MAN has by them;")
    private static void whatHeGets() {
        EndingMarket x = Check.of("kind k;kind l;man m 9;man n 9;thing s m k 5;thing t n l 5;ending a m 1 l 5;ending b n 1 k 5;");
        Check.due("m", x.gets(0), 1);
        Check.due("n", x.gets(1), 0);
        Check.due("nothing is done by asking", x.ending(0, 0), 0);
        Check.due("nor to be undone", x.undo(), -1);
        x.trade();
        Check.due("m has it now", x.gets(0), 1);
        Check.due("n has it now", x.gets(1), 0);
    }

    @Says(at = "Promise 28: gets", quote = "NONE: he comes with none, no such one.")
    private static void whoGetsNone() {
        EndingMarket x = Check.of(TEXT);
        Check.due("m", x.gets(0), 0);
        Check.due("o comes with none", x.gets(2), -1);
        Check.due("one man more", x.gets(3), -1);
        for (int n : NO_NUMBERS) {
            Check.due("gets " + n, x.gets(n), -1);
        }
        x.put(0, 0, 0);
        Check.due("m comes with b", x.gets(0), 1);
        x.put(0, 1, 0);
        Check.due("m comes with none", x.gets(0), -1);
        EndingMarket y = Check.of("man a 1;man b 1;man c 1;man d 1;man e 1;man f 1;ending x f 1;");
        Check.due("the sixth", y.gets(5), 0);
        Check.due("a seventh", y.gets(6), -1);
    }

    @Says(at = "Promise 29: trade", quote = "All trade by RINGS (that is no buying): how many have another ENDING then.")
    private static void allTrade() {
        EndingMarket x = Check.of("kind k;kind l;man m 9;man n 9;man o 0;thing s m k 5;thing t n l 5;ending a m 10 l 5;"
                + "ending b n 20 k 5;ending c m 30;ending d o 40;dusk 3;");
        Check.due("two of three", x.trade(), 2);
        Check.due("m has b and c", x.man(0, 2), 6);
        Check.due("n has a", x.man(1, 2), 1);
        Check.due("o has d yet", x.man(2, 2), 8);
        Check.due("no coin went", x.man(0, 0) * 100 + x.man(1, 0), 909);
        Check.due("nobody bought", x.man(0, 3) + x.man(1, 3) + x.ending(0, 5) + x.ending(1, 5), 0);
        x.days(1);
        Check.due("what was traded was never bought: a", x.ending(0, 1), 7);
        Check.due("b", x.ending(1, 1), 17);
        Check.due("nobody has another one", x.trade(), 0);
        Check.due("days", x.undo(), 1);
        Check.due("trade", x.undo(), 0);
        Check.due("who has a", x.ending(0, 0), 0);
        Check.due("no men", new EndingMarket().trade(), 0);
        EndingMarket y = Check.of(TEXT);
        Check.due("m likes his own best, and n the same, then his own", y.trade(), 0);
    }

    @Says(at = "Promise 30: when", quote = "ENDS: the DAY;")
    private static void theDayItEnds() {
        EndingMarket x = Check.of(TEXT);
        Check.due("u", x.when(2), 0);
        x.days(60);
        Check.due("u", x.when(2), 60);
        x.put(0, 1, 0);
        Check.due("s", x.when(0), 60);
        x.days(60);
        Check.due("s", x.when(0), 120);
    }

    @Says(at = "Promise 30: when", quote = "NONE: not by DAY 399, no such one.")
    private static void notByDay399() {
        EndingMarket x = Check.of(TEXT);
        Check.due("s", x.when(0), -1);
        Check.due("t", x.when(1), -1);
        Check.due("one thing more", x.when(3), -1);
        for (int n : NO_NUMBERS) {
            Check.due("when " + n, x.when(n), -1);
        }
        for (int i = 0; i < 6; i++) {
            x.days(60);
        }
        x.days(39);
        Check.due("day 399", x.when(2), 399);
        Check.due("s", x.when(0), -1);
        x.days(1);
        Check.due("day 400 is none", x.when(2), -1);
        Check.due("though nothing is open", x.thing(2, 1), 0);
    }

    @Says(at = "Promise 31: later", quote = "How much would be open in a THING at the beginning of DAY d, if nothing is done;")
    private static void atTheBeginningOfADay() {
        EndingMarket x = Check.of(TEXT);
        x.days(3);
        x.put(0, 0, 0);
        x.put(0, 1, 0);
        // a closed 4 of 5, and goes on at the end of day 4; b closed the last one, for good.
        int[] due = {0, 0, 4, 4, 4};
        for (int d = 3; d < 8; d++) {
            Check.due("day " + d, x.later(0, d), due[d - 3]);
        }
        Check.due("day 400", x.later(0, 400), 4);
        Check.due("t", x.later(1, 400), 5);
        Check.due("u", x.later(2, 400), 0);
        Check.due("it is day 3 yet", x.now(0), 3);
        Check.due("and nothing went on", x.now(5), 0);
        for (int d = 4; d < 8; d++) {
            x.days(1);
            Check.due("on day " + d + " itself", x.thing(0, 1), due[d - 3]);
            Check.due("day " + d, x.later(0, d), due[d - 3]);
        }
    }

    @Says(at = "Promise 31: later", quote = "NONE: it is past (or above 400), no such one.")
    private static void itIsPast() {
        EndingMarket x = Check.of(TEXT);
        Check.due("ahead of the first day", x.later(0, -1), -1);
        Check.due("the first day", x.later(0, 0), 5);
        Check.due("400", x.later(0, 400), 5);
        Check.due("401", x.later(0, 401), -1);
        x.days(7);
        Check.due("yesterday", x.later(0, 6), -1);
        Check.due("today", x.later(0, 7), 5);
        Check.due("tomorrow", x.later(0, 8), 5);
        Check.due("long past", x.later(0, Integer.MIN_VALUE), -1);
        Check.due("far above", x.later(0, Integer.MAX_VALUE), -1);
        Check.due("one thing more", x.later(3, 7), -1);
        for (int n : NO_NUMBERS) {
            Check.due("thing " + n, x.later(n, 7), -1);
        }
        for (int i = 0; i < 7; i++) {
            x.days(60);
        }
        Check.due("399 is past", x.later(0, 399), -1);
        Check.due("400 is now", x.later(0, 400), 5);
        Check.due("401", x.later(0, 401), -1);
    }

    @Says(at = "Promise 32: dark", quote = "ENDINGS told that are false and were put and have not gone on yet, as bits.")
    private static void whatIsInTheDark() {
        EndingMarket x = Check.of("kind k;man m 9;thing t m k 9;ending a m 1 k 1;ending b m 1 k 1;ending c m 1 k 1;ending d m 1 k 1;"
                + "false a 1;false c 2;false d 60;");
        Check.due("not put yet", x.dark(), 0);
        x.put(0, 1, 0);
        Check.due("b is not false", x.dark(), 0);
        x.put(0, 0, 0);
        Check.due("a", x.dark(), 1);
        x.put(0, 2, 0);
        x.put(0, 3, 0);
        Check.due("a, c, d", x.dark(), 13);
        x.days(1);
        Check.due("a went on", x.dark(), 12);
        x.days(1);
        Check.due("c went on", x.dark(), 8);
        x.days(57);
        Check.due("d not yet", x.dark(), 8);
        x.days(1);
        Check.due("d went on", x.dark(), 0);
        x.undo();
        Check.due("undone", x.dark(), 8);
        // Where no DAYS are left for it, it waits for good.
        EndingMarket y = Check.of("kind k;man m 9;thing t m k 9;ending a m 1 k 1;false a 1;");
        for (int i = 0; i < 7; i++) {
            y.days(60);
        }
        y.put(0, 0, 0);
        Check.due("put on day 400", y.dark(), 1);
        y.days(1);
        Check.due("no day goes by", y.dark(), 1);
        // All ten.
        StringBuilder text = new StringBuilder("kind k;kind l;man m 1;thing t m k 9;thing u m l 1;");
        for (int e = 0; e < 10; e++) {
            String name = "e" + (char) ('a' + e);
            text.append("ending ").append(name).append(" m 1 ").append(e == 9 ? "l" : "k").append(" 1;false ").append(name)
                    .append(" 1;");
        }
        EndingMarket z = Check.of(text.toString());
        for (int e = 0; e < 10; e++) {
            z.put(0, e, e == 9 ? 1 : 0);
        }
        Check.due("all ten", z.dark(), 1023);
    }

    @Says(at = "Promise 33: cheapest", quote = "The cheapest ENDING (not put) that FITS a THING and is of another MAN than whose the THING is "
            + "(of like ones the first);")
    private static void theCheapest() {
        EndingMarket x = Check.of("kind k;kind l;man m 9;man n 9;man o 9;thing t m k 5;thing u n k 5;ending a m 0 k 1;ending b n 5 k 1;"
                + "ending c o 4 k 1;ending d n 4 k 1;ending e o 0 l 1;ending f n 0;ending g n 4 k 9;dusk 0;");
        Check.due("c, of c, d and g", x.cheapest(0), 2);
        Check.due("a", x.cheapest(1), 0);
        x.buy(0, 2);
        Check.due("c is of the same man now", x.cheapest(0), 3);
        x.put(1, 3, 1);
        Check.due("d is put", x.cheapest(0), 6);
        x.put(1, 6, 1);
        Check.due("g is put, and b is dearer", x.cheapest(0), 1);
        EndingMarket y = Check.of("kind k;man m 9;man n 9;thing t m k 5;ending a n 8 k 1;ending b n 9 k 1;dusk 2;");
        y.buy(0, 0);
        y.buy(1, 0);
        y.days(1);
        Check.due("7 now, and a is 8 yet", y.cheapest(0), 1);
    }

    @Says(at = "Promise 33: cheapest", quote = "NONE: none, no such one.")
    private static void noneIsCheapest() {
        EndingMarket x = Check.of(TEXT);
        Check.due("c does not fit s, a and b are his", x.cheapest(0), -1);
        Check.due("t", x.cheapest(1), 0);
        Check.due("nothing is open in u", x.cheapest(2), -1);
        Check.due("one thing more", x.cheapest(3), -1);
        for (int n : NO_NUMBERS) {
            Check.due("thing " + n, x.cheapest(n), -1);
        }
        x.put(0, 0, 0);
        x.put(0, 1, 0);
        Check.due("none is left for t", x.cheapest(1), -1);
    }
}
