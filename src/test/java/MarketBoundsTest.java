/** Terms: what a MARKET is. */
public final class MarketBoundsTest {
    private static final String KM = "kind k;man m 9;";

    public static void main(String[] args) {
        Bounds.run(MarketBoundsTest.class);
    }

    private static EndingMarket lines(String text, int lines) {
        EndingMarket x = new EndingMarket();
        Check.due("market " + text, Check.market(x, text), lines);
        Check.due("fault of market " + text, x.fault(), 0);
        return x;
    }

    @Says(at = "Terms", quote = "A MARKET is a text of at most 900 bytes:")
    private static void atMost900Bytes() {
        String[] blanks = {" ", "\n"};
        for (String blank : blanks) {
            lines("kind k;" + Check.times(892, blank), 1);
            lines("kind k;" + Check.times(893, blank), 1);
            Check.fault("kind k;" + Check.times(894, blank), 900, 1);
            Check.fault("kind k;" + Check.times(933, blank), 900, 1);
            lines(Check.times(893, blank) + "kind k;", 1);
            Check.fault(Check.times(894, blank) + "kind k;", 900, 1);
        }
        lines(Check.times(900, " "), 0);
        Check.fault(Check.times(901, " "), 900, 1);
        // The rest of the tape counts, too: end() takes it away.
        EndingMarket x = new EndingMarket();
        Check.feed(x, "kind k;" + Check.times(900, " "));
        Check.due("end", x.end(900), true);
        Check.due("market", x.market(), 1);
    }

    @Says(at = "Terms", quote = "{ LINE ; }.")
    private static void linesEachWithItsSign() {
        lines("", 0);
        lines(" ", 0);
        lines("kind k;", 1);
        lines("kind k;kind l;", 2);
        Check.fault("kind k", 6, 1);
        Check.fault("kind k;kind l", 13, 1);
        Check.fault(";", 0, 1);
        Check.fault("kind k;;", 7, 1);
        Check.fault("kind k kind l;", 7, 1);
        // As many LINES as there may be: of each sort the most, each false, and dusk.
        StringBuilder text = new StringBuilder("dusk 1;");
        names(text, "kind", 6, "");
        names(text, "man", 6, " 1");
        names(text, "thing", 8, " mxa");
        names(text, "ending", 10, " mxa 1");
        for (int i = 0; i < 10; i++) {
            text.append("false ").append(name("ending", i)).append(" 1;");
        }
        lines(text.toString(), 41);
    }

    private static String name(String sort, int i) {
        return sort.charAt(0) + "x" + (char) ('a' + i);
    }

    private static void names(StringBuilder text, String sort, int n, String more) {
        for (int i = 0; i < n; i++) {
            text.append(sort).append(' ').append(name(sort, i)).append(more).append(';');
        }
    }

    @Says(at = "Terms", quote = "LINE: 'kind' NAME |")
    private static void kindLine() {
        Check.due("kinds", lines("kind k;", 1).count(0), 1);
        Check.fault("kind", 4, 1);
        Check.fault("kind ;", 5, 1);
        Check.fault("kind 1;", 5, 1);
        Check.fault("kind k k;", 7, 1);
        Check.fault("kind k 1;", 7, 1);
        Check.fault("kinds k;", 0, 1);
        Check.fault("kin k;", 0, 1);
    }

    @Says(at = "Terms", quote = "'man' NAME COIN (0 to 999) |")
    private static void manLine() {
        int[] coin = {0, 1, 998, 999};
        for (int c : coin) {
            Check.due("coin", lines("man m " + c + ";", 1).man(0, 0), c);
        }
        // What is above has four digits, and is no TOKEN at all.
        Check.fault("man m 1000;", 6, 1);
        Check.fault("man m;", 5, 1);
        Check.fault("man m m;", 6, 1);
        Check.fault("man 1;", 4, 1);
        Check.fault("man m 1 1;", 8, 1);
    }

    @Says(at = "Terms", quote = "'thing' NAME MAN { KIND N } (what is open: 1 to 9; each KIND once) |")
    private static void thingLine() {
        String text = "kind k;kind l;man m 9;";
        Check.due("nothing", lines(text + "thing t m;", 4).thing(0, 1), 0);
        Check.due("1", lines(text + "thing t m l 1;", 4).open(0, 1), 1);
        Check.due("9", lines(text + "thing t m l 9;", 4).open(0, 1), 9);
        Check.due("both", lines(text + "thing t m l 9 k 1;", 4).thing(0, 1), 10);
        Check.fault(text + "thing t m l 0;", 34, 2);
        Check.fault(text + "thing t m l 10;", 34, 2);
        Check.fault(text + "thing t m l 999;", 34, 2);
        Check.fault(text + "thing t m l 1 l 1;", 36, 3);
        Check.fault(text + "thing t m l 1 k 1 l 2;", 40, 3);
        Check.fault(text + "thing t m l 9 k 0;", 38, 2);
        Check.fault(text + "thing t m l;", 33, 1);
        Check.fault(text + "thing t m l k 1;", 34, 1);
        Check.fault(text + "thing t;", 29, 1);
        Check.fault(text + "thing t m 1;", 32, 1);
        // Each THING has its own: what one told another may.
        Check.due("two things", lines(text + "thing t m l 1;thing u m l 2;", 5).open(1, 1), 2);
        EndingMarket x = lines("kind a;kind b;kind c;kind d;kind e;kind f;man m 1;thing t m a 9 b 9 c 9 d 9 e 9 f 9;", 8);
        Check.due("all six kinds", x.thing(0, 1), 54);
        Check.fault("kind a;kind b;kind c;kind d;kind e;kind f;man m 1;thing t m a 9 b 9 c 9 d 9 e 9 f 9 a 9;", 84, 3);
    }

    @Says(at = "Terms", quote = "'ending' NAME MAN PRICE { KIND N } (0 to 99; what it closes: 1 to 9; each KIND once) |")
    private static void endingLine() {
        String text = "kind k;kind l;man m 9;";
        Check.due("price 0", lines(text + "ending e m 0;", 4).ending(0, 1), 0);
        Check.due("price 99", lines(text + "ending e m 99;", 4).ending(0, 1), 99);
        Check.due("price 099", lines(text + "ending e m 099;", 4).ending(0, 1), 99);
        Check.fault(text + "ending e m 100;", 33, 2);
        Check.fault(text + "ending e m 999;", 33, 2);
        Check.fault(text + "ending e m 1000;", 33, 1);
        Check.due("1", lines(text + "ending e m 0 l 1;", 4).closes(0, 1), 1);
        Check.due("9", lines(text + "ending e m 0 l 9;", 4).closes(0, 1), 9);
        Check.due("both", lines(text + "ending e m 0 l 9 k 2;", 4).ending(0, 6), 11);
        Check.fault(text + "ending e m 0 l 0;", 37, 2);
        Check.fault(text + "ending e m 0 l 10;", 37, 2);
        Check.fault(text + "ending e m 0 l 1 l 1;", 39, 3);
        Check.fault(text + "ending e m 0 l 1 k 1 l 2;", 43, 3);
        Check.fault(text + "ending e m;", 32, 1);
        Check.fault(text + "ending e m l 1;", 33, 1);
        Check.fault(text + "ending e m 0 l;", 36, 1);
        Check.fault(text + "ending e 0;", 31, 1);
        EndingMarket x = lines("kind a;kind b;kind c;kind d;kind e;kind f;man m 1;ending n m 1 a 9 b 9 c 9 d 9 e 9 f 9;", 8);
        Check.due("all six kinds", x.ending(0, 6), 54);
    }

    @Says(at = "Terms", quote = "'false' ENDING DAYS (1 to 60; each ENDING once) |")
    private static void falseLine() {
        String text = KM + "thing t m k 5;ending e m 0 k 5;ending f m 0 k 5;";
        int[] days = {1, 2, 59, 60};
        for (int d : days) {
            EndingMarket x = lines(text + "false e " + d + ";", 6);
            x.put(0, 0, 0);
            Check.due("till the last of " + d + " days", x.later(0, d - 1), 0);
            Check.due("behind " + d + " days", x.later(0, d), 5);
        }
        Check.fault(text + "false e 0;", 71, 2);
        Check.fault(text + "false e 61;", 71, 2);
        Check.fault(text + "false e 999;", 71, 2);
        lines(text + "false e 1;false f 1;", 7);
        Check.fault(text + "false e 1;false e 1;", 79, 3);
        Check.fault(text + "false f 60;false e 1;false f 2;", 90, 3);
        Check.fault(text + "false;", 68, 1);
        Check.fault(text + "false e;", 70, 1);
        Check.fault(text + "false t 1;", 69, 3);
        // It may stand ahead of other LINES, but behind the one that tells the ENDING.
        lines("man m 1;ending e m 1;false e 1;kind k;", 4);
        Check.fault("man m 1;false e 1;ending e m 1;", 14, 3);
    }

    @Says(at = "Terms", quote = "'dusk' N (0 to 9; once; 1 without).")
    private static void duskLine() {
        Check.due("0", lines("dusk 0;", 1).count(4), 0);
        Check.due("9", lines("dusk 9;", 1).count(4), 9);
        Check.fault("dusk 10;", 5, 2);
        Check.fault("dusk;", 4, 1);
        Check.fault("dusk 1 1;", 7, 1);
        Check.fault("dusk 0;dusk 0;", 7, 3);
        Check.fault("dusk 1;dusk 2;", 7, 3);
        Check.fault("dusk 2;kind k;dusk 2;", 14, 3);
        EndingMarket x = lines("man m 1;ending e m 5;", 2);
        Check.due("without", x.count(4), 1);
        x.days(1);
        Check.due("1 cheaper", x.ending(0, 1), 4);
        Check.market(x, "dusk 7;");
        Check.market(x, "kind k;");
        Check.due("without, behind one with it", x.count(4), 1);
    }

    @Says(at = "Terms", quote = "NAME: a WORD, none of those told here, in a LEDGER or a SENTENCE;")
    private static void wordsThatAreNoNames() {
        String[] words = {"kind", "man", "thing", "ending", "false", "dusk", "buys", "puts", "day", "or", "and", "not",
            "ended", "of", "has", "fits", "open", "pages", "number"};
        String man = "man m 1;";
        for (String word : words) {
            Check.fault("kind " + word + ";", 5, 1);
            Check.fault("man " + word + " 1;", 4, 1);
            Check.fault(man + "thing " + word + " m;", 14, 1);
            Check.fault(man + "ending " + word + " m 1;", 15, 1);
            lines("kind " + word.substring(0, word.length() - 1) + ";kind " + word.charAt(0) + "x;", 2);
            if (word.length() < 7) {
                lines("kind " + word + "s;kind x" + word + ";", 2);
            }
        }
        // Neither are those told with capitals, nor those of the calls.
        String[] names = {"line", "name", "coin", "n", "price", "days", "text", "market", "ledger", "cond", "all", "one",
            "sign", "token", "word", "lives", "none", "undo", "put", "buy", "end", "row", "tray", "was", "ask"};
        for (String name : names) {
            lines("kind " + name + ";", 1);
            lines("man " + name + " 1;thing t " + name + ";", 2);
        }
    }

    @Says(at = "Terms", quote = "told once.")
    private static void namesToldOnce() {
        String[] sorts = {"kind a;", "man a 1;", "thing a m;", "ending a m 1;"};
        String[] again = {"kind a", "man a", "thing a", "ending a"};
        int[] at = {5, 4, 6, 7};
        for (String first : sorts) {
            lines("man m 1;" + first, 2);
            for (int i = 0; i < sorts.length; i++) {
                Check.fault("man m 1;" + first + again[i], 8 + first.length() + at[i], 3);
                lines("man m 1;" + first + sorts[i].replace("a", "aa").replace("maan", "man"), 3);
            }
        }
    }

    @Says(at = "Terms", quote = "6 KINDS, 6 MEN, 8 THINGS, 10 ENDINGS at most, numbered from 0 each.")
    private static void atMostSoMany() {
        String[] sorts = {"kind", "man", "thing", "ending"};
        String[] more = {"", " 1", " m", " m 1"};
        int[] most = {6, 6, 8, 10};
        for (int s = 0; s < sorts.length; s++) {
            StringBuilder text = new StringBuilder(s == 1 ? "" : "man m 1;");
            names(text, sorts[s], most[s], more[s]);
            EndingMarket x = lines(text.toString(), most[s] + (s == 1 ? 0 : 1));
            Check.due("how many of " + sorts[s], x.count(s), most[s]);
            Check.fault(text + sorts[s] + " z" + more[s] + ";", text.length(), 4);
            Check.fault(text + sorts[s], text.length(), 4);
            // Of the other sorts there may be some yet.
            String other = s == 0 ? "man z 1;" : "kind z;";
            lines(text + other, most[s] + (s == 1 ? 1 : 2));
        }
        EndingMarket x = lines("man a 3;kind k;man b 4;kind l;thing t a k 1;ending e a 1 l 1;thing u b l 2;ending f b 2 k 2;", 8);
        Check.due("man 0", x.man(0, 0), 3);
        Check.due("man 1", x.man(1, 0), 4);
        Check.due("thing 0, kind 0", x.open(0, 0), 1);
        Check.due("thing 1, kind 1", x.open(1, 1), 2);
        Check.due("ending 0, kind 1", x.closes(0, 1), 1);
        Check.due("ending 1, kind 0", x.closes(1, 0), 2);
        Check.due("no man 2", x.man(2, 0), -1);
        Check.due("no thing 2", Check.thingThrows(x, 2, 0), true);
        Check.due("no ending 2", Check.endingThrows(x, 2, 0), true);
        Check.due("no kind 2", x.open(0, 2), -1);
    }
}
