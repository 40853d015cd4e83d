/** Terms, the part marked ==== 3: CLOSES, STREET, GOES WITH ALL, WAS and ASK. */
public final class SearchBoundsTest {
    public static void main(String[] args) {
        Bounds.run(SearchBoundsTest.class);
    }

    private static void row(EndingMarket x, int... due) {
        for (int k = 0; k < due.length; k++) {
            Check.due("row " + k, x.row(k), due[k]);
        }
        Check.due("row " + due.length, x.row(due.length), -1);
    }

    private static void has(EndingMarket x, int... due) {
        for (int t = 0; t < due.length; t++) {
            Check.due("has " + t, x.has(t), due[t]);
        }
    }

    @Says(at = "Terms", quote = "CLOSES: a row of ENDINGS that are not put, whosever, each of which FITS when it is put,")
    private static void rowsOfSuchAsFit() {
        // Whosever: m has none.
        EndingMarket x = Check.of("kind k;kind l;man m 0;man n 9;thing t m k 4;ending a n 1 k 2;ending b n 2 k 2;"
                + "ending c n 0 k 2 l 1;ending d n 0;dusk 0;");
        Check.due("two of another man, dearer than his coin", x.ends(0), 3);
        row(x, 0, 1);
        // Not put: what is put elsewhere is gone.
        EndingMarket y = Check.of("kind k;man m 9;thing t m k 4;thing u m k 4;ending a m 1 k 4;ending b m 5 k 4;dusk 0;");
        Check.due("the cheap one", y.ends(0), 1);
        y.put(0, 0, 1);
        Check.due("the dear one", y.ends(0), 5);
        y.put(0, 1, 0);
        y.undo();
        Check.due("undone", y.ends(0), 5);
        // Each FITS when it is put: c closes l, which only b leaves open behind it.
        EndingMarket z = Check.of("kind k;kind l;man m 9;thing t m k 2 l 2;ending a m 1 k 2 l 1;ending b m 1 k 1;"
                + "ending c m 1 k 1 l 1;dusk 0;");
        Check.due("b, c or c, b would leave l open", z.ends(0), 2);
        row(z, 2, 0);
        EndingMarket w = Check.of("kind k;kind l;man m 9;thing t m k 1 l 2;ending a m 1 k 1 l 1;ending b m 1 k 1 l 1;");
        Check.due("the second one would fit no more", w.ends(0), -1);
    }

    @Says(at = "Terms", quote = "behind which nothing is open (by itself, on one DAY):")
    private static void nothingIsOpenBehind() {
        int[] coin = {-1, -1, 2, 2, 1, 1};
        for (int closes = 1; closes <= 6; closes++) {
            EndingMarket x = Check.of("kind k;man m 9;thing t m k 5;ending a m 1 k " + closes + ";ending b m 1 k "
                    + Math.min(closes, 4) + ";");
            Check.due("5 is open, two close " + closes, x.ends(0), coin[closes - 1]);
        }
        // On one DAY: that a false one goes on at its end is no matter, nor that prices would go down.
        EndingMarket y = Check.of("kind k;man m 9;thing t m k 5;ending a m 1 k 5;ending b m 2 k 5;false a 1;dusk 9;");
        Check.due("the false one", y.ends(0), 1);
        row(y, 0);
        // By itself: what other things need is no matter.
        EndingMarket z = Check.of("kind k;man m 9;thing t m k 5;thing u m k 5;ending a m 1 k 5;");
        Check.due("t", z.ends(0), 1);
        Check.due("u", z.ends(1), 1);
        Check.due("not both", z.street(3), -1);
        // Ten ENDINGS in one row, and one too little.
        EndingMarket ten = Check.of(tenEndings("k 9 l 1"));
        Check.due("all ten", ten.ends(0), 10);
        row(ten, 0, 1, 2, 3, 4, 5, 6, 7, 8, 9);
        EndingMarket more = Check.of(tenEndings("k 9 l 2"));
        Check.due("all ten are not enough", more.ends(0), -1);
    }

    private static String tenEndings(String open) {
        StringBuilder text = new StringBuilder("kind k;kind l;man m 9;thing t m " + open + ";");
        for (char e = 'a'; e < 'j'; e++) {
            text.append("ending ").append(e).append(" m 1 k 1;");
        }
        return text + "ending j m 1 l 1;";
    }

    @Says(at = "Terms", quote = "the least coin in all (PRICES now);")
    private static void leastCoin() {
        String text = "kind k;man m 99;man n 99;thing t m k 5;ending a m 8 k 5;ending b m 5 k 3;ending c m 4 k 2;dusk 2;";
        EndingMarket x = Check.of(text);
        Check.due("8 against 9", x.ends(0), 8);
        row(x, 0);
        x.days(1);
        Check.due("6 against 5: two get cheaper twice as fast", x.ends(0), 5);
        row(x, 1, 2);
        EndingMarket y = Check.of(text);
        y.buy(1, 1);
        y.buy(1, 2);
        y.days(1);
        Check.due("6 against 9: what was bought stays as dear", y.ends(0), 6);
        EndingMarket z = Check.of("kind k;man m 9;thing t m k 5;ending a m 99 k 5;ending b m 50 k 3;ending c m 48 k 2;");
        Check.due("98 against 99", z.ends(0), 98);
        row(z, 1, 2);
        z.days(60);
        z.days(60);
        Check.due("for nothing", z.ends(0), 0);
        row(z, 0);
    }

    @Says(at = "Terms", quote = "of like ones the fewest, then the least as bits.")
    private static void ofLikeRows() {
        // Both cost 4: two of them, or one, which is more as bits.
        EndingMarket x = Check.of("kind k;man m 9;thing t m k 4;ending a m 2 k 2;ending b m 2 k 2;ending c m 4 k 4;");
        Check.due("4", x.ends(0), 4);
        row(x, 2);
        // One coin more: the fewest are not asked for.
        EndingMarket y = Check.of("kind k;man m 9;thing t m k 4;ending a m 2 k 2;ending b m 2 k 2;ending c m 5 k 4;");
        Check.due("4", y.ends(0), 4);
        row(y, 0, 1);
        // As many, as dear: b and c are 6 as bits, a and d are 9.
        EndingMarket z = Check.of("kind k;kind l;man m 9;thing t m k 1 l 1;ending a m 1 k 1;ending b m 2 k 1;ending c m 2 l 1;"
                + "ending d m 3 l 1;dusk 0;");
        Check.due("a and c", z.ends(0), 3);
        EndingMarket w = Check.of("kind k;kind l;man m 9;thing t m k 3 l 3;ending a m 2 k 1 l 3;ending b m 1 k 3;"
                + "ending c m 1 l 3;ending d m 0 k 2;");
        Check.due("2", w.ends(0), 2);
        row(w, 1, 2);
        EndingMarket one = Check.of("kind k;man m 9;thing t m k 5;ending a m 3 k 5;ending b m 3 k 5;");
        Check.due("the first of two", one.ends(0), 3);
        row(one, 0);
        // One that costs nothing is no part of the row, if it need not.
        EndingMarket none = Check.of("kind k;man m 9;thing t m k 5;ending a m 0 k 1;ending b m 3 k 5;");
        Check.due("b alone", none.ends(0), 3);
        row(none, 1);
    }

    @Says(at = "Terms", quote = "The row: of all orders of these that may be the first by numbers.")
    private static void theFirstOrder() {
        // Any order may be.
        EndingMarket x = Check.of("kind k;man m 9;thing t m k 6;ending a m 1 k 2;ending b m 1 k 2;ending c m 1 k 2;");
        x.ends(0);
        row(x, 0, 1, 2);
        // a closes k whole, and b needs some of it: b comes ahead of a.
        EndingMarket y = Check.of("kind k;kind l;man m 9;thing t m k 2 l 5;ending a m 1 k 2;ending b m 1 k 1 l 5;");
        x.ends(0);
        Check.due("both", y.ends(0), 2);
        row(y, 1, 0);
        // Of the three orders that may be (b c a, c b a, b a c is none) the first.
        EndingMarket z = Check.of("kind k;kind l;kind j;man m 9;thing t m k 4 l 1 j 1;ending a m 1 k 3;ending b m 1 k 1 j 1;"
                + "ending c m 1 k 1 l 1;");
        Check.due("three", z.ends(0), 3);
        row(z, 1, 2, 0);
        EndingMarket w = Check.of("kind k;kind l;kind j;man m 9;thing t m k 5 l 1 j 1;ending a m 1 k 3;ending b m 1 k 1 j 1;"
                + "ending c m 1 k 1 l 1;");
        Check.due("three", w.ends(0), 3);
        row(w, 0, 1, 2);
    }

    @Says(at = "Terms", quote = "STREET for some THINGS: to each one ENDING that FITS and closes all that is open,")
    private static void oneEndingThatClosesAll() {
        int[] coin = {-1, -1, -1, -1, 1, 1, 1, 1, 1};
        for (int closes = 1; closes <= 9; closes++) {
            EndingMarket x = Check.of("kind k;kind l;man m 9;thing t m k 5;ending e m 1 k " + closes + ";");
            Check.due("5 is open, it closes " + closes, x.street(1), coin[closes - 1]);
        }
        EndingMarket x = Check.of("kind k;kind l;man m 9;thing t m k 5;thing u m k 5 l 1;ending a m 1 k 9 l 9;ending b m 1 k 9;"
                + "dusk 0;");
        Check.due("it must fit t", x.street(1), 1);
        has(x, 1, -1);
        Check.due("b leaves l open in u", x.street(2), 1);
        has(x, -1, 0);
        Check.due("each has its own", x.street(3), 2);
        has(x, 1, 0);
        // Two that close all together are not one.
        EndingMarket y = Check.of("kind k;man m 9;thing t m k 5;ending a m 1 k 3;ending b m 1 k 2;");
        Check.due("two are not one", y.street(1), -1);
        Check.due("though they close it", y.ends(0), 2);
    }

    @Says(at = "Terms", quote = "all unlike, none that is put")
    private static void allUnlike() {
        EndingMarket x = Check.of("kind k;man m 9;thing t m k 5;thing u m k 4;ending a m 1 k 5;");
        Check.due("t", x.street(1), 1);
        Check.due("u", x.street(2), 1);
        Check.due("one for two", x.street(3), -1);
        has(x, -1, 0);
        EndingMarket y = Check.of("kind k;man m 9;thing t m k 5;thing u m k 4;ending a m 1 k 5;ending b m 9 k 4;dusk 0;");
        Check.due("two for two", y.street(3), 10);
        has(y, 0, 1);
        y.put(0, 1, 1);
        Check.due("nothing is open in u", y.street(3), 1);
        y.undo();
        y.put(0, 0, 1);
        Check.due("a is put", y.street(1), -1);
        // Eight for eight, and seven for eight.
        Check.due("eight for eight", Check.of(eight(8)).street(255), 8);
        Check.due("seven for eight", Check.of(eight(7)).street(255), -1);
        Check.due("seven for seven of them", Check.of(eight(7)).street(127), 7);
    }

    private static String eight(int endings) {
        StringBuilder text = new StringBuilder("kind k;man m 9;");
        for (char t = 'a'; t < 'i'; t++) {
            text.append("thing t").append(t).append(" m k 1;");
        }
        for (int e = 0; e < endings; e++) {
            text.append("ending e").append((char) ('a' + e)).append(" m 1 k 1;");
        }
        return text.toString();
    }

    @Says(at = "Terms", quote = "(THINGS with nothing open need none):")
    private static void nothingOpenNeedsNone() {
        EndingMarket x = Check.of("kind k;man m 9;thing t m;thing u m k 1;ending a m 5 k 1;");
        Check.due("nothing is open in t", x.street(1), 0);
        has(x, -1, -1);
        Check.due("only u needs one", x.street(3), 5);
        has(x, -1, 0);
        x.put(0, 0, 1);
        Check.due("none needs any", x.street(3), 0);
        has(x, -1, -1);
        Check.due("no things", x.street(0), 0);
    }

    @Says(at = "Terms", quote = "the least coin in all; of like ones the first: THING by THING the least ENDING.")
    private static void leastCoinThenTheFirst() {
        EndingMarket x = Check.of("kind k;man m 9;thing t m k 1;thing u m k 2;ending a m 3 k 1;ending b m 1 k 2;ending c m 4 k 2;");
        Check.due("3 and 1, not 1 and 4", x.street(3), 4);
        has(x, 0, 1);
        EndingMarket y = Check.of("kind k;man m 9;thing t m k 1;thing u m k 2;ending a m 3 k 1;ending b m 1 k 2;ending c m 2 k 2;");
        Check.due("1 and 2, not 3 and 1", y.street(3), 3);
        has(y, 1, 2);
        // Of like ones: 3 and 1 is as dear as 1 and 3.
        EndingMarket z = Check.of("kind k;man m 9;thing t m k 1;thing u m k 2;ending a m 3 k 1;ending b m 1 k 2;ending c m 3 k 2;");
        Check.due("like ones", z.street(3), 4);
        has(z, 0, 1);
        EndingMarket w = Check.of("kind k;man m 9;thing t m k 1;thing u m k 1;thing v m k 1;ending a m 1 k 1;ending b m 1 k 1;"
                + "ending c m 1 k 1;ending d m 1 k 1;");
        Check.due("three of four", w.street(7), 3);
        has(w, 0, 1, 2);
        Check.due("two of four", w.street(6), 2);
        has(w, -1, 0, 1);
        // The first of the THINGS has the least, though that is not the least for the other.
        EndingMarket v = Check.of("kind k;kind l;man m 9;thing t m k 1 l 1;thing u m k 1;ending a m 1 k 1;ending b m 1 k 1 l 1;"
                + "ending c m 1 k 1 l 1;");
        Check.due("each", v.street(3), 2);
        has(v, 1, 0);
    }

    @Says(at = "Terms", quote = "GOES WITH ALL of some THINGS that have something open:")
    private static void thingsWithSomethingOpen() {
        EndingMarket x = Check.of("kind k;man m 9;thing t m;thing u m k 1;ending a m 5 k 1;ending b m 5 k 1;");
        Check.due("nothing is open in t", x.covers(1), 0);
        Check.due("tray", x.tray(), 0);
        Check.due("u alone", x.covers(3), 1);
        Check.due("tray", x.tray(), 1);
        x.put(0, 0, 1);
        Check.due("nothing is open in either", x.covers(3), 0);
        Check.due("tray", x.tray(), 0);
    }

    @Says(at = "Terms", quote = "the fewest ENDINGS, not put, so that each of these is FITTED by one at least;")
    private static void theFewest() {
        EndingMarket x = Check.of("kind k;kind l;man m 9;thing t m k 1 l 9;thing u m k 9;ending a m 0 l 1;ending b m 99 k 1;");
        Check.due("one for both, though dearer", x.covers(3), 1);
        Check.due("tray", x.tray(), 2);
        x.put(0, 1, 1);
        Check.due("b is put", x.covers(2), -1);
        Check.due("t without it", x.covers(1), 1);
        Check.due("tray", x.tray(), 1);
        EndingMarket y = Check.of("kind k;kind l;man m 9;thing t m l 9;thing u m k 9;ending a m 0 l 1;ending b m 9 k 1;"
                + "ending c m 0 k 1 l 1;ending d m 0;");
        Check.due("two", y.covers(3), 2);
        Check.due("tray", y.tray(), 3);
        // Eight THINGS of which no two are FITTED by one: eight ENDINGS.
        String[] three = {"a 1 b 1 c 1", "a 1 b 1 d 1", "a 1 b 1 e 1", "a 1 b 1 f 1", "a 1 c 1 d 1", "a 1 c 1 e 1",
            "a 1 c 1 f 1", "a 1 d 1 e 1"};
        StringBuilder text = new StringBuilder("kind a;kind b;kind c;kind d;kind e;kind f;man m 9;ending none m 0;"
                + "ending all m 0 a 1 b 1 c 1 d 1;");
        for (int t = 0; t < 8; t++) {
            text.append("thing t").append((char) ('a' + t)).append(" m ").append(three[t]).append(';');
            text.append("ending e").append((char) ('a' + t)).append(" m 0 ").append(three[t]).append(';');
        }
        EndingMarket z = Check.of(text.toString());
        Check.due("eight", z.covers(255), 8);
        Check.due("tray", z.tray(), 1020);
        Check.due("the last alone", z.covers(128), 1);
        Check.due("tray", z.tray(), 512);
        z.put(0, 9, 7);
        Check.due("seven", z.covers(255), 7);
        Check.due("tray", z.tray(), 508);
    }

    @Says(at = "Terms", quote = "one at least; of like ones the least as bits.")
    private static void ofLikeTrays() {
        EndingMarket x = Check.of("kind k;kind l;man m 9;thing t m k 1;thing u m l 1;ending a m 9 k 1;ending b m 0 k 1;"
                + "ending c m 9 l 1;ending d m 0 l 1;");
        Check.due("t", x.covers(1), 1);
        Check.due("a", x.tray(), 1);
        Check.due("u", x.covers(2), 1);
        Check.due("c", x.tray(), 4);
        Check.due("both", x.covers(3), 2);
        Check.due("a and c", x.tray(), 5);
        // Only b and c (6 as bits), or a and d (9), go with all four.
        EndingMarket y = Check.of("kind p;kind q;kind r;kind s;man m 9;thing t m p 1 q 1;thing u m r 1 s 1;thing v m p 1 r 1;"
                + "thing w m q 1 s 1;ending a m 0 p 1;ending b m 9 q 1;ending c m 9 r 1;ending d m 0 s 1;");
        Check.due("all four", y.covers(15), 2);
        Check.due("b and c", y.tray(), 6);
        Check.due("t and v", y.covers(5), 1);
        Check.due("a", y.tray(), 1);
        Check.due("u and w", y.covers(10), 1);
        Check.due("d", y.tray(), 8);
    }

    @Says(at = "Terms", quote = "WAS by the tape (for each KIND a byte: what is open on the last page;")
    private static void aByteForEachKind() {
        EndingMarket x = Check.of("kind j;kind k;man m 9;thing s m j 5 k 1;thing t m j 1 k 5;thing u m;ending e m 1 j 1;");
        Check.due("the kinds as they are numbered", Check.was(x, "\5\1"), 1);
        Check.due("the other way round", Check.was(x, "\1\5"), 2);
        Check.due("nothing", Check.was(x, "\0\0"), 4);
        Check.due("a byte too few", Check.was(x, "\5"), -1);
        Check.due("none", Check.was(x, ""), -1);
        // A byte is 0 to 255, and an amount that no THING can have leaves none.
        Check.due("9", Check.was(x, "\11\0"), 0);
        Check.due("10", Check.was(x, "\12\0"), 0);
        Check.due("128", Check.was(x, "\200\0"), 0);
        Check.due("255", Check.was(x, "\377\377"), 0);
        EndingMarket six = Check.of("kind a;kind b;kind c;kind d;kind e;kind f;man m 9;thing s m a 1 b 2 c 3 d 4 e 5 f 6;"
                + "thing t m a 9 b 9 c 9 d 9 e 9 f 9;");
        Check.due("six kinds", Check.was(six, "\1\2\3\4\5\6"), 1);
        Check.due("nines", Check.was(six, "\11\11\11\11\11\11"), 2);
        Check.due("the last is another", Check.was(six, "\1\2\3\4\5\7"), 0);
        Check.due("five bytes", Check.was(six, "\1\2\3\4\5"), -1);
        EndingMarket none = Check.of("man m 9;thing s m;thing t m;");
        Check.due("no kinds, no byte", Check.was(none, ""), 3);
    }

    @Says(at = "Terms", quote = "then the numbers of ENDINGS that were put to it, unlike):")
    private static void numbersOfEndings() {
        EndingMarket x = Check.of("kind k;man m 9;thing t m k 9;thing u m k 5;ending a m 1 k 1;ending b m 1 k 2;ending c m 1 k 9;");
        Check.due("none", Check.was(x, "\11"), 1);
        Check.due("the first", Check.was(x, "\10\0"), 1);
        Check.due("the last", Check.was(x, "\0\2"), 3);
        Check.due("one behind the last", Check.was(x, "\0\3"), -1);
        Check.due("255", Check.was(x, "\0\377"), -1);
        Check.due("32 behind one that is there", Check.was(x, "\0\42"), -1);
        Check.due("two", Check.was(x, "\6\0\1"), 1);
        Check.due("the same twice", Check.was(x, "\7\0\0"), -1);
        Check.due("and behind another", Check.was(x, "\7\0\1\0"), -1);
        // Ten of them.
        StringBuilder ten = new StringBuilder("kind k;kind l;man m 9;thing t m k 9 l 1;");
        for (char e = 'a'; e < 'j'; e++) {
            ten.append("ending ").append(e).append(" m 1 k 1;");
        }
        ten.append("ending j m 1 l 1;");
        EndingMarket y = Check.of(ten.toString());
        Check.due("all ten", Check.was(y, "\0\0\11\10\7\6\5\4\3\2\1\0"), 1);
        Check.due("nine", Check.was(y, "\1\0\11\10\7\6\5\4\3\2\1"), 1);
        Check.due("an eleventh", Check.was(y, "\0\0\11\10\7\6\5\4\3\2\1\0\12"), -1);
    }

    @Says(at = "Terms", quote = "THINGS, as they were told, that come so by these ENDINGS in some order in which each FITS.")
    private static void asTheyWereTold() {
        EndingMarket x = Check.of("kind k;kind l;man m 9;man n 9;thing s m k 3 l 1;thing t n k 3 l 1;thing u m k 2 l 1;"
                + "ending a m 1 k 2;ending b n 1 k 1 l 1;ending c m 1 k 3;");
        Check.due("any order, whosever", Check.was(x, "\0\0\0\1"), 7);
        Check.due("the other one", Check.was(x, "\0\0\1\0"), 7);
        Check.due("b ahead of c", Check.was(x, "\0\0\2\1"), 7);
        Check.due("c leaves no k for a, nor a for c in u", Check.was(x, "\0\1\2\0"), 3);
        Check.due("b and then the others", Check.was(x, "\0\0\0\1\2"), 0);
        // As they were told: what was put and what went on is no matter.
        x.put(0, 2, 0);
        x.days(5);
        Check.due("as told", Check.was(x, "\3\1"), 3);
        Check.due("not as now", Check.was(x, "\0\1"), 0);
        Check.due("by c", Check.was(x, "\0\1\2"), 7);
        Check.due("1 is left", Check.was(x, "\1\1\0"), 3);
        Check.due("0 is left", Check.was(x, "\0\1\0"), 4);
        EndingMarket y = Check.of("kind k;man m 9;thing t m k 5;ending a m 1 k 5;ending b m 1;");
        Check.due("one that closes nothing fits nothing", Check.was(y, "\5\1"), 0);
        Check.due("nor behind another", Check.was(y, "\0\0\1"), 0);
    }

    @Says(at = "Terms", quote = "ASK: the KIND of which these THINGS had most unlike amounts open when told (of like ones the first).")
    private static void mostUnlikeAmounts() {
        // s and t come to nothing by e; u does not. Unlike are k's 3 and 4, and l's 1, 2.
        EndingMarket x = Check.of("kind j;kind k;kind l;man m 9;thing s m k 3 l 1;thing t m k 4 l 1;thing u m j 1 k 5 l 2;"
                + "ending e m 1 k 9 l 9;");
        Check.due("was", Check.was(x, "\0\0\0\0"), 3);
        Check.due("k: two amounts, j and l: one", x.ask(), 1);
        EndingMarket y = Check.of("kind j;kind k;kind l;man m 9;thing s m k 3 l 1;thing t m k 4 l 2;ending e m 1 k 9 l 9;");
        Check.due("was", Check.was(y, "\0\0\0\0"), 3);
        Check.due("k and l: two amounts each", y.ask(), 1);
        EndingMarket z = Check.of("kind j;kind k;kind l;man m 9;thing r m k 3 l 3;thing s m k 3 l 1;thing t m k 4 l 2;"
                + "ending e m 1 k 9 l 9;");
        Check.due("was", Check.was(z, "\0\0\0\0"), 7);
        Check.due("l: three amounts", z.ask(), 2);
        EndingMarket w = Check.of("kind j;kind k;man m 9;thing s m k 3;thing t m k 4;ending e m 1 k 9;");
        Check.due("one thing", Check.was(w, "\0\3"), 1);
        Check.due("one amount of each: the first", w.ask(), 0);
        // Nothing is an amount as well: 0 and 9 are two.
        EndingMarket v = Check.of("kind j;kind k;man m 9;thing s m k 3;thing t m k 3 j 9;ending e m 1 k 9;ending f m 1 j 9;");
        Check.due("was", Check.was(v, "\0\0\0\1"), 2);
        Check.due("t alone", v.ask(), 0);
        EndingMarket eight = Check.of("kind j;kind k;man m 9;thing a m k 1 j 1;thing b m k 2 j 1;thing c m k 3 j 1;thing d m k 4 j 1;"
                + "thing e m k 5 j 1;thing f m k 6 j 2;thing g m k 7 j 2;thing h m k 9 j 2;ending x m 1 k 9 j 9;");
        Check.due("all eight", Check.was(eight, "\0\0\0"), 255);
        Check.due("eight amounts", eight.ask(), 1);
    }
}
