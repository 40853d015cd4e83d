/** Terms: FAULTS. */
public final class FaultBoundsTest {
    private static final String TEXT = "kind k;man m 9;thing t m k 5;ending e m 1 k 5;";

    public static void main(String[] args) {
        Bounds.run(FaultBoundsTest.class);
    }

    private static void market(String text, int place, int kind) {
        Check.fault(text, place, kind);
    }

    private static void ledger(String text, int place, int kind) {
        Check.ledgerFault(Check.of(TEXT), text, place, kind);
    }

    private static void sentence(String text, int place, int kind) {
        Check.sentenceFault(Check.of(TEXT), text, place, kind);
    }

    private static void right(String text, int lines) {
        EndingMarket x = new EndingMarket();
        Check.due("market " + text, Check.market(x, text), lines);
        Check.due("fault of market " + text, x.fault(), 0);
    }

    @Says(at = "Terms", quote = "FAULTS, the first along the text,")
    private static void theFirstAlongTheText() {
        // Two in one text: the other one first, then this one.
        market("dusk 10;kind 1;", 5, 2);
        market("kind 1;dusk 10;", 5, 1);
        market("thing t m;dusk 10;", 8, 3);
        market("dusk 10;thing t m;", 5, 2);
        market("kind a;kind b;kind c;kind d;kind e;kind f;kind a;", 42, 4);
        market("kind a;kind b;kind c;kind d;kind a;kind f;kind g;", 33, 3);
        market("kind a;kind b;kind c;kind d;kind e;kind f;kind 1", 42, 4);
        market("kind a;kind b;kind c;kind d;kind e;kind f;kind", 42, 4);
        ledger("day 0;o buys e;", 4, 2);
        ledger("o buys e;day 0;", 0, 3);
        ledger("day 0;" + Check.times(50, "day 1;"), 4, 2);
        sentence("of o and ended;", 3, 3);
        sentence("ended;and of o", 5, 1);
        sentence("of o" + Check.times(20, " or of m"), 3, 3);
        sentence(Check.times(9, "not ") + "of o", 32, 4);
    }

    @Says(at = "Terms", quote = "of one TOKEN the least:")
    private static void ofOneTokenTheLeast() {
        String forty = Check.times(40, "day 1;");
        // The first WORD of a 41st LINE: no TOKEN that can come (1), a NAME not told or of another sort (3), or a LINE (4).
        ledger(forty + "buys e;", 240, 1);
        ledger(forty + "7;", 240, 1);
        ledger(forty + "eightlet", 240, 1);
        ledger(forty + ";", 240, 1);
        ledger(forty + "o buys e;", 240, 3);
        ledger(forty + "t buys e;", 240, 3);
        ledger(forty + "m buys e;", 240, 4);
        ledger(forty + "m", 240, 4);
        ledger(forty + "day 1;", 240, 4);
        ledger(forty + "day 0;", 240, 4);
        ledger(forty + "day", 240, 4);
        // The first TOKEN of a 21st ONE, and of a ninth within.
        String twenty = "ended" + Check.times(19, " or ended");
        sentence(twenty + " or m", 180, 1);
        sentence(twenty + " or ;", 180, 1);
        sentence(twenty + " or and", 180, 1);
        sentence(twenty + " or of", 180, 4);
        sentence(twenty + " or not", 180, 4);
        sentence(twenty + " or (", 180, 4);
        sentence(twenty + " or of o", 180, 4);
        String eight = Check.times(8, "(");
        sentence(eight + ")", 8, 1);
        sentence(eight + "m", 8, 1);
        sentence(eight, 8, 1);
        sentence(eight + "has o", 8, 4);
        sentence(eight + "open<1000", 8, 4);
        // One that is both the 21st and a ninth within.
        sentence(Check.times(12, "ended or ") + eight + "ended", 116, 4);
        // A word that is no NAME is none that was not told: it can't come.
        ledger("m buys buys;", 7, 1);
        ledger("m puts e day;", 9, 1);
        sentence("of not", 3, 1);
        market("man m 1;thing t kind;", 16, 1);
        market("man m 1;thing t m of 1;", 18, 1);
        market("false dusk 1;", 6, 1);
    }

    @Says(at = "Terms", quote = "1 no TOKEN, or one that can't come (at it;")
    private static void atTheTokenThatCantCome() {
        market("kind k;K", 7, 1);
        market(" kind  kK;", 8, 1);
        market("\nkind\n7;", 6, 1);
        market("kind k l;", 7, 1);
        market("kind < k;", 5, 1);
        market("man m 9 k;", 8, 1);
        market("kind k.", 6, 1);
        market("\0", 0, 1);
        market("\u00ff", 0, 1);
        ledger("  m\tbuys e;", 3, 1);
        ledger("m buys e ) ;", 9, 1);
        sentence("ended or\0ended", 8, 1);
        sentence("  )", 2, 1);
        sentence("open < < 1", 7, 1);
    }

    @Says(at = "Terms", quote = "the end: how many bytes there are;")
    private static void atTheEnd() {
        market("kind", 4, 1);
        market("kind   ", 7, 1);
        market("kind k", 6, 1);
        market("kind k\n\n", 8, 1);
        market("man m 1;thing t m k", 18, 3);
        market("kind k;man m 1;thing t m k", 26, 1);
        market("kind k" + Check.times(894, " "), 900, 1);
        market("kind k" + Check.times(893, " "), 899, 1);
        ledger("m", 1, 1);
        ledger("m ", 2, 1);
        ledger("day 1" + Check.times(395, " "), 400, 1);
        ledger("day 1" + Check.times(394, " "), 399, 1);
        sentence("", 0, 1);
        sentence("   ", 3, 1);
        sentence("(ended ", 7, 1);
        sentence("not" + Check.times(197, " "), 200, 1);
        sentence("not" + Check.times(196, " "), 199, 1);
    }

    @Says(at = "Terms", quote = "the most bytes told, if there are more and no FAULT is ahead:")
    private static void atTheMostBytesTold() {
        market("kind k;" + Check.times(893, " ") + "kind l;", 900, 1);
        market(Check.times(893, " ") + "kind k;;", 900, 1);
        market(Check.times(893, " ") + "kind k;" + "K", 900, 1);
        market(Check.times(892, " ") + "kind k;" + "KK", 899, 1);
        market("kind 1;" + Check.times(900, " "), 5, 1);
        market("dusk 10;" + Check.times(900, " "), 5, 2);
        market("kind k;kind k;" + Check.times(900, " "), 12, 3);
        ledger("day 1;" + Check.times(394, " ") + "day 0;", 400, 1);
        ledger("day 1;" + Check.times(393, " ") + ";;", 399, 1);
        ledger("day 0;" + Check.times(400, " "), 4, 2);
        ledger(Check.times(41, "day 1;") + Check.times(400, " "), 240, 4);
        sentence("ended" + Check.times(195, " ") + "or", 200, 1);
        sentence("ended" + Check.times(194, " ") + "m ", 199, 1);
        sentence("of o" + Check.times(200, " "), 3, 3);
        sentence("not" + Check.times(198, " "), 200, 1);
        sentence(Check.times(9, "not ") + Check.times(200, " "), 32, 4);
    }

    @Says(at = "Terms", quote = "TOKENS that begin ahead of it are read whole);")
    private static void readWhole() {
        // The last byte of 900 is the first of a TOKEN that goes on behind it.
        String nine = Check.times(892, " ");
        market("kind k;" + nine + "kind l;", 900, 1);
        market("kind k;" + nine + "kin l;", 899, 1);
        market("kind k;kind" + Check.times(888, " ") + "kk;", 900, 1);
        market("kind k;kind" + Check.times(888, " ") + "kkkkkkk;", 900, 1);
        market("kind k;kind" + Check.times(888, " ") + "kkkkkkkk;", 899, 1);
        market("kind k;kind" + Check.times(888, " ") + "k;", 899, 3);
        market("kind kk;kind" + Check.times(887, " ") + "k;", 900, 1);
        market("kind kk;kind" + Check.times(887, " ") + "kk;", 899, 3);
        market("dusk" + Check.times(895, " ") + "10;", 899, 2);
        market("dusk" + Check.times(895, " ") + "010;", 899, 2);
        market("dusk" + Check.times(895, " ") + "009;", 900, 1);
        market("dusk" + Check.times(895, " ") + "0009;", 899, 1);
        market("dusk" + Check.times(895, " ") + "1x;", 899, 1);
        // One that begins behind it is not looked at.
        market("dusk" + Check.times(896, " ") + "10;", 900, 1);
        // All of it, and no more: the text is as told, if end() takes away what is behind.
        right("kind" + Check.times(894, " ") + "k;", 1);
        market("kind" + Check.times(895, " ") + "k;", 900, 1);
        ledger("day" + Check.times(396, " ") + "61;", 399, 2);
        ledger("day" + Check.times(396, " ") + "60;", 400, 1);
        ledger("day" + Check.times(397, " ") + "61;", 400, 1);
        ledger("m" + Check.times(398, " ") + "buys e;", 400, 1);
        ledger("m" + Check.times(398, " ") + "buyx e;", 399, 1);
        sentence("of" + Check.times(197, " ") + "mm", 199, 3);
        sentence("of" + Check.times(197, " ") + "m ", 200, 1);
        sentence("of" + Check.times(198, " ") + "mm", 200, 1);
        sentence("ended" + Check.times(194, " ") + "or", 200, 1);
        sentence("ended" + Check.times(194, " ") + "os", 199, 1);
        sentence("open<" + Check.times(194, " ") + "1000", 199, 1);
        sentence("open<" + Check.times(194, " ") + "999", 200, 1);
    }

    @Says(at = "Terms", quote = "2 a NUMBER that is not as told (at it);")
    private static void atTheNumber() {
        market("dusk  10;", 6, 2);
        market("kind k;man m 1;thing t m k 0;", 27, 2);
        market("kind k;man m 1;thing t m k 10;", 27, 2);
        market("man m 1;ending e m 100;", 19, 2);
        market("man m 1;ending e m 1;false e 61;", 29, 2);
        market("man m 1;ending e m 1;false e 0;", 29, 2);
        ledger("day 0;", 4, 2);
        ledger("day\n61;", 4, 2);
        ledger("day 1;day 60;day 61;", 17, 2);
        // A NUMBER where none may be can't come.
        market("kind 10;", 5, 1);
        ledger("0;", 0, 1);
        sentence("0", 0, 1);
    }

    @Says(at = "Terms", quote = "3 a NAME told twice, not told, or of another sort, what is told once told again (at it; 'dusk' at the WORD);")
    private static void atTheName() {
        market("kind k;kind  k;", 13, 3);
        market("kind k;man k 1;", 11, 3);
        market("man m 1;thing m m;", 14, 3);
        market("man m 1;ending m m 1;", 15, 3);
        market("thing t  m;", 9, 3);
        market("kind k;thing t k;", 15, 3);
        market("man m 1;thing t m k 1;", 18, 3);
        market("man m 1;thing t m m 1;", 18, 3);
        market("man m 1;thing t m t 1;", 18, 3);
        market("ending e e 1;", 9, 3);
        market("man m 1;false m 1;", 14, 3);
        market("false e 1;", 6, 3);
        market("kind k;man m 1;thing t m k 1 k 1;", 29, 3);
        market("kind k;man m 1;ending e m 1 k 1 k 1;", 32, 3);
        market("man m 1;ending e m 1;false e 1;false e 2;", 37, 3);
        market("dusk 1; dusk 1;", 8, 3);
        market("dusk 1;dusk", 7, 3);
        market("dusk 1;dusk 10;", 7, 3);
        market("dusk 1;dusk dusk;", 7, 3);
        ledger(" o buys e;", 1, 3);
        ledger("e buys e;", 0, 3);
        ledger("m buys  t;", 8, 3);
        ledger("m puts e e;", 9, 3);
        sentence("of  k", 4, 3);
        sentence("has m", 4, 3);
        sentence("fits t", 5, 3);
        sentence("fits  x", 6, 3);
        // What a MARKET with a FAULT told is not told.
        EndingMarket x = Check.of(TEXT);
        Check.market(x, "man o 1;kind");
        Check.due("of o", Check.sentence(x, "of o"), -4);
        Check.due("fault", x.fault(), 3);
    }

    @Says(at = "Terms", quote = "4 one more than there may be of a sort,")
    private static void atTheLineOfOneMore() {
        market("kind a;kind b;kind c;kind d;kind e;kind f; kind g;", 43, 4);
        market("man a 1;man b 1;man c 1;man d 1;man e 1;man f 1;\nman g 1;", 49, 4);
        String things = "thing a m;thing b m;thing c m;thing d m;thing e m;thing f m;thing g m;thing h m;";
        market("man m 1;" + things + "  thing i m;", 90, 4);
        String ten = "man m 1;";
        for (char e = 'a'; e < 'k'; e++) {
            ten += "ending " + e + " m 1;";
        }
        market(ten + "ending k m 1;", 138, 4);
        right("kind a;kind b;kind c;kind d;kind e;kind f;", 6);
        right("man m 1;" + things, 9);
        right(ten, 11);
    }

    @Says(at = "Terms", quote = "a 41st LINE of a LEDGER (at the LINE's first WORD),")
    private static void atThe41stLine() {
        ledger(Check.times(40, "day 1;") + "  day 1;", 242, 4);
        ledger(Check.times(40, "day 1;") + "\nm buys e;", 241, 4);
        ledger(Check.times(42, "day 1;"), 240, 4);
        EndingMarket x = Check.of(TEXT);
        Check.due("forty", Check.ledger(x, Check.times(40, "day 1;") + "  ", 0), -1);
    }

    @Says(at = "Terms", quote = "a 21st ONE, a ninth within (at its first TOKEN).")
    private static void atThe21stOneAndTheNinthWithin() {
        String twenty = "ended" + Check.times(19, " or ended");
        sentence(twenty + " or   ended", 182, 4);
        sentence(twenty + " and not", 181, 4);
        sentence(twenty + " or(", 179, 4);
        sentence("(" + "ended" + Check.times(18, " or ended") + " or of m)", 172, 4);
        sentence(Check.times(8, "( ") + "ended", 16, 4);
        sentence(Check.times(8, "not ") + "open<1", 32, 4);
        sentence("ended or " + Check.times(8, "(") + "not", 17, 4);
        sentence(Check.times(7, "(") + "not not ended", 11, 4);
        EndingMarket x = Check.of(TEXT);
        Check.due("twenty", Check.sentence(x, twenty), 20);
        Check.due("eight within", Check.sentence(x, Check.times(6, "(") + "not ended" + Check.times(6, ")")), 8);
    }
}
