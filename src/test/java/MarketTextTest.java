/** Promises 4 and 5: market, fault. */
public final class MarketTextTest {
    private static final String MEN = "man m 1;";

    public static void main(String[] args) {
        readsMarkets();
        faultsOfTokens();
        faultsOfNumbers();
        faultsOfNames();
        faultsOfSize();
        faultsOfLength();
        aFaultChangesNothing();
        aNewMarketBeginsAnew();
        faultIsTheLatest();
        Check.finish();
    }

    private static void lines(String text, int lines) {
        EndingMarket x = new EndingMarket();
        Check.due("market " + text, Check.market(x, text), lines);
        Check.due("fault of " + text, x.fault(), 0);
        Check.due("tape behind " + text, x.count(5), 0);
    }

    private static void readsMarkets() {
        lines("", 0);
        lines(" \n ", 0);
        lines("kind k;", 1);
        lines("\n kind\nk ; ", 1);
        lines("kind k;man m 0;man n 999;thing t m k 9;thing u n;ending e m 0 k 1;ending f n 99;false e 60;dusk 0;", 9);
        lines("man m 007;ending e m 00;false e 001;dusk 009;", 4);
        lines("kind abcdefg;kind line;kind name;", 3);
        lines("kind a;kind b;kind c;kind d;kind e;kind f;man aa 1;man ab 1;man ac 1;man ad 1;man ae 1;man af 1;"
                + "thing ta aa a 1 b 2 c 3 d 4 e 5 f 6;thing tb aa f 1 a 1;thing tc aa;thing td aa;thing te aa;"
                + "thing tf aa;thing tg aa;thing th aa;", 20);
        // A kind may be told behind a thing; the thing has nothing of it.
        EndingMarket x = Check.of(MEN + "kind a;thing t m a 2;kind b;");
        Check.due("open of a kind told later", x.open(0, 1), 0);
    }

    private static void faultsOfTokens() {
        Check.fault("kind", 4, 1);
        Check.fault("kind k", 6, 1);
        Check.fault("kind k  ", 8, 1);
        Check.fault(";", 0, 1);
        Check.fault("k;", 0, 1);
        Check.fault("buys k;", 0, 1);
        Check.fault("kind k k;", 7, 1);
        Check.fault("kind 1;", 5, 1);
        Check.fault("kind abcdefgh;", 5, 1);
        Check.fault("kind k1;", 5, 1);
        Check.fault("kind K;", 5, 1);
        Check.fault("kind\tk;", 4, 1);
        Check.fault("kindk;", 0, 1);
        Check.fault("kind k.", 6, 1);
        Check.fault("kind k;<", 7, 1);
        Check.fault("man m;", 5, 1);
        Check.fault("man m k;", 6, 1);
        Check.fault("man m 1000;", 6, 1);
        Check.fault("man m 1x;", 6, 1);
        Check.fault("man m 1 1;", 8, 1);
        Check.fault("thing t;", 7, 1);
        Check.fault("thing t 1;", 8, 1);
        Check.fault(MEN + "thing t m 1;", 18, 1);
        Check.fault(MEN + "kind k;thing t m k;", 26, 1);
        Check.fault(MEN + "kind k;thing t m k k 1;", 27, 1);
        Check.fault(MEN + "ending e m;", 18, 1);
        Check.fault(MEN + "ending e m k;", 19, 1);
        Check.fault("false 1;", 6, 1);
        Check.fault("dusk;", 4, 1);
        Check.fault("dusk d;", 5, 1);
        String[] words = {"kind", "man", "thing", "ending", "false", "dusk", "buys", "puts", "day", "or", "and", "not",
            "ended", "of", "has", "fits", "open", "pages", "number"};
        for (String word : words) {
            Check.fault("kind " + word + ";", 5, 1);
            Check.fault(MEN + "thing t " + word + ";", 16, 1);
            Check.fault(MEN + "ending e m 1 " + word + " 1;", 21, 1);
        }
    }

    private static void faultsOfNumbers() {
        Check.fault("kind k;" + MEN + "thing t m k 0;", 27, 2);
        Check.fault("kind k;" + MEN + "thing t m k 10;", 27, 2);
        Check.fault(MEN + "ending e m 100;", 19, 2);
        Check.fault("kind k;" + MEN + "ending e m 1 k 0;", 30, 2);
        Check.fault("kind k;" + MEN + "ending e m 1 k 10;", 30, 2);
        Check.fault(MEN + "ending e m 1;false e 0;", 29, 2);
        Check.fault(MEN + "ending e m 1;false e 61;", 29, 2);
        Check.fault("dusk 10;", 5, 2);
    }

    private static void faultsOfNames() {
        Check.fault("kind k;kind k;", 12, 3);
        Check.fault("kind k;man k 1;", 11, 3);
        Check.fault(MEN + "thing m m;", 14, 3);
        Check.fault(MEN + "ending m m 1;", 15, 3);
        Check.fault("thing t m;", 8, 3);
        Check.fault("thing t t;", 8, 3);
        Check.fault("ending e m 1;", 9, 3);
        Check.fault("ending e e 1;", 9, 3);
        Check.fault("kind k;ending e k 1;", 16, 3);
        Check.fault("kind m;thing t m;", 15, 3);
        Check.fault(MEN + "thing t m k 1;", 18, 3);
        Check.fault(MEN + "thing t m m 1;", 18, 3);
        Check.fault("kind k;" + MEN + "thing t m k 1 k 1;", 29, 3);
        Check.fault("kind k;" + MEN + "ending e m 1 k 1 k 2;", 32, 3);
        Check.fault("false e 1;", 6, 3);
        Check.fault(MEN + "false m 1;", 14, 3);
        Check.fault(MEN + "ending e m 1;false e 1;false e 1;", 37, 3);
        Check.fault("dusk 1;dusk 1;", 7, 3);
        Check.fault("dusk 1;dusk", 7, 3);
    }

    private static void faultsOfSize() {
        Check.fault("kind a;kind b;kind c;kind d;kind e;kind f;kind", 42, 4);
        Check.fault("man a 1;man b 1;man c 1;man d 1;man e 1;man f 1;man man", 48, 4);
        Check.fault(MEN + "thing a m;thing b m;thing c m;thing d m;thing e m;thing f m;thing g m;thing h m;thing", 88, 4);
        String ten = MEN + "ending a m 1;ending b m 1;ending c m 1;ending d m 1;ending e m 1;"
                + "ending f m 1;ending g m 1;ending h m 1;ending i m 1;ending j m 1;";
        lines(ten, 11);
        Check.fault(ten + "ending k m 1;", ten.length(), 4);
        Check.fault("kind a;kind a;kind c;kind d;kind e;kind f;kind g;", 12, 3);
    }

    private static void faultsOfLength() {
        String full = "kind k;" + Check.times(893, " ");
        lines(full, 1);
        Check.fault(full + " ", 900, 1);
        Check.fault(full + ";", 900, 1);
        Check.fault("kind k" + Check.times(894, " ") + ";", 900, 1);
        Check.fault("kind" + Check.times(896, "\n") + "k;", 900, 1);
        // What begins ahead of the last byte is read whole.
        Check.fault("kind k;" + Check.times(892, " ") + "kind", 900, 1);
        Check.fault("kind k;" + Check.times(892, " ") + "k;", 899, 1);
        Check.fault("kind k;kind" + Check.times(888, " ") + "k;", 899, 3);
        Check.fault("kind k;kind" + Check.times(888, " ") + "kkkkkkkk;", 899, 1);
        Check.fault("man m" + Check.times(894, " ") + "1234;", 899, 1);
        Check.fault("man m" + Check.times(894, " ") + "123;", 900, 1);
        Check.fault(Check.times(899, " ") + ";;", 899, 1);
        // A fault further ahead is told, however long the text is.
        Check.fault("kind 1;" + Check.times(930, " "), 5, 1);
    }

    private static void aFaultChangesNothing() {
        EndingMarket x = Check.of("kind k;man m 9;thing t m k 5;ending e m 1 k 3;dusk 3;");
        x.put(0, 0, 0);
        x.days(2);
        Check.sentence(x, "pages = 1");
        Check.due("market with a fault", Check.market(x, "kind k;kind k;"), -13);
        Check.due("things", x.count(2), 1);
        Check.due("dusk", x.count(4), 3);
        Check.due("open", x.open(0, 0), 2);
        Check.due("day", x.now(0), 2);
        Check.due("said", x.said(0), 0);
        Check.due("undo", x.undo(), 1);
    }

    private static void aNewMarketBeginsAnew() {
        EndingMarket x = Check.of("kind k;man m 9;man n 9;thing s m;thing t m k 5;ending e n 1 k 5;");
        x.ends(1);
        x.street(2);
        x.covers(2);
        x.haggle(0, 0);
        x.buy(0, 0);
        x.put(0, 0, 1);
        x.days(3);
        Check.was(x, "\5");
        Check.ledger(x, "day 1;", 0);
        Check.sentence(x, "ended");
        Check.due("market", Check.market(x, "man m 7;"), 1);
        Check.due("day", x.now(0), 0);
        Check.due("put", x.now(2), 0);
        Check.due("coin", x.now(3), 7);
        Check.due("gone on", x.now(5), 0);
        Check.due("bought", x.man(0, 3), 0);
        Check.due("puts", x.man(0, 4), 0);
        Check.due("sentence", x.said(-1), -1);
        Check.due("undo", x.undo(), -1);
        // What other calls told last stays.
        Check.due("row", x.row(0), 0);
        Check.due("has", x.has(1), 0);
        Check.due("tray", x.tray(), 1);
        Check.due("ask", x.ask(), 0);
        Check.due("rounds", x.rounds(), 1);
        Check.due("told", x.told(2), 4);
        nothingOfAnotherMarket();
    }

    private static void nothingOfAnotherMarket() {
        EndingMarket x = Check.of("kind k;kind l;man m 9;man n 9;thing t m k 5 l 5;thing u m k 1;ending e n 1 k 5 l 2;"
                + "ending f m 1 k 1 l 1;false e 1;false f 2;dusk 7;");
        x.buy(0, 0);
        x.put(0, 0, 0);
        x.put(0, 1, 1);
        x.days(3);
        Check.due("went on", x.now(5), 1);
        // The same names, without amounts, without 'false' and 'dusk'.
        String bare = "kind k;kind l;man m 9;thing t m;thing u m;ending e m 5;ending f m 6;";
        Check.due("market", Check.market(x, bare), 7);
        Check.due("dusk", x.count(4), 1);
        Check.due("open", x.now(4), 0);
        Check.due("closes", x.ending(0, 6) + x.ending(1, 6), 0);
        Check.due("went on", x.now(5) + x.ending(0, 4), 0);
        Check.due("bought", x.ending(0, 5) + x.man(0, 3), 0);
        Check.due("put", x.ending(0, 2) + x.ending(0, 3), -2);
        Check.due("has", x.man(0, 2), 3);
        x.days(2);
        Check.due("cheaper by 1", x.ending(0, 1) * 10 + x.ending(1, 1), 34);
        Check.due("market", Check.market(x, "kind k;man m 9;thing t m k 2;ending e m 5 k 2;ending f m 1 k 1;"), 5);
        x.put(0, 0, 0);
        Check.due("it is not false now", x.dark(), 0);
        x.days(9);
        Check.due("it stays", x.open(0, 0), 0);
        Check.due("a name of the market that was", Check.sentence(x, "has l"), -5);
    }

    private static void faultIsTheLatest() {
        EndingMarket x = Check.of("man m 1;");
        Check.due("no fault", x.fault(), 0);
        Check.sentence(x, "of k");
        Check.due("of a sentence", x.fault(), 3);
        Check.ledger(x, "day 0;", 0);
        Check.due("of a ledger", x.fault(), 2);
        Check.feed(x, "day 1;");
        Check.due("another lives", x.ledger(2), -1000);
        Check.due("stays", x.fault(), 2);
        x.was();
        Check.due("stays behind was", x.fault(), 2);
        Check.market(x, "x");
        Check.due("of a market", x.fault(), 1);
        Check.sentence(x, "of m");
        Check.due("none", x.fault(), 0);
        Check.market(x, "x");
        Check.ledger(x, "", 0);
        Check.due("none", x.fault(), 0);
        Check.market(x, "x");
        Check.market(x, "");
        Check.due("none", x.fault(), 0);
    }
}
