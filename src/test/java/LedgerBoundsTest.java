/** Terms: what a LEDGER is. */
public final class LedgerBoundsTest {
    private static final String TEXT = "kind k;man m 9;man n 9;thing t m k 5;ending e m 1 k 5;ending f n 1 k 5;dusk 0;";

    public static void main(String[] args) {
        Bounds.run(LedgerBoundsTest.class);
    }

    private static EndingMarket right(String text, int lines) {
        EndingMarket x = Check.of(TEXT);
        Check.due("ledger " + text, Check.ledger(x, text, 1), -1);
        Check.due("fault of ledger " + text, x.fault(), 0);
        Check.due("lines of ledger " + text, x.told(1), lines);
        return x;
    }

    private static void fault(String text, int place, int kind) {
        Check.ledgerFault(Check.of(TEXT), text, place, kind);
    }

    @Says(at = "Terms", quote = "A LEDGER is a text of at most 400 bytes:")
    private static void atMost400Bytes() {
        right("day 1;" + Check.times(393, " "), 1);
        right("day 1;" + Check.times(394, " "), 1);
        fault("day 1;" + Check.times(395, " "), 400, 1);
        fault("day 1;" + Check.times(395, "\n"), 400, 1);
        right(Check.times(394, " ") + "day 1;", 1);
        fault(Check.times(395, " ") + "day 1;", 400, 1);
        right(Check.times(400, " "), 0);
        fault(Check.times(401, " "), 400, 1);
        // Forty LINES of ten bytes fill it.
        right(Check.times(40, "  day 01 ;"), 40);
        fault(Check.times(40, "  day 01 ;") + " ", 400, 1);
    }

    @Says(at = "Terms", quote = "{ LINE ; }, 40 at most:")
    private static void atMost40Lines() {
        right("", 0);
        right(" \n", 0);
        right("day 1;", 1);
        right(Check.times(39, "day 1;"), 39);
        Check.due("days", right(Check.times(40, "day 1;"), 40).now(0), 40);
        fault(Check.times(41, "day 1;"), 240, 4);
        fault(Check.times(40, "day 1;") + "m buys f;", 240, 4);
        fault(";", 0, 1);
        fault("day 1;;", 6, 1);
        fault("day 1", 5, 1);
        fault("day 1 day 1;", 6, 1);
    }

    @Says(at = "Terms", quote = "MAN ( 'buys' ENDING |")
    private static void buyingLine() {
        Check.due("who has it", right("m buys f;", 1).ending(1, 0), 0);
        fault("m buys;", 6, 1);
        fault("m buys f t;", 9, 1);
        fault("m buys m;", 7, 3);
        fault("m buys k;", 7, 3);
        fault("m buys t;", 7, 3);
        fault("m buys g;", 7, 3);
        fault("m buy f;", 2, 1);
        fault("m f;", 2, 1);
        fault("m;", 1, 1);
        fault("buys f;", 0, 1);
        fault("k buys f;", 0, 3);
        fault("t buys f;", 0, 3);
        fault("f buys f;", 0, 3);
        fault("o buys f;", 0, 3);
    }

    @Says(at = "Terms", quote = "'puts' ENDING THING ) |")
    private static void puttingLine() {
        Check.due("where it is", right("m puts e t;", 1).ending(0, 2), 0);
        fault("m puts e;", 8, 1);
        fault("m puts t;", 7, 3);
        fault("m puts e e;", 9, 3);
        fault("m puts e m;", 9, 3);
        fault("m puts e k;", 9, 3);
        fault("m puts e g;", 9, 3);
        fault("m puts e t t;", 11, 1);
        fault("m puts e 0;", 9, 1);
        fault("m put e t;", 2, 1);
    }

    @Says(at = "Terms", quote = "'day' N (1 to 60).")
    private static void dayLine() {
        Check.due("day 1", right("day 1;", 1).now(0), 1);
        Check.due("day 60", right("day 60;", 1).now(0), 60);
        Check.due("day 059", right("day 059;", 1).now(0), 59);
        fault("day 0;", 4, 2);
        fault("day 000;", 4, 2);
        fault("day 61;", 4, 2);
        fault("day 999;", 4, 2);
        fault("day 1000;", 4, 1);
        fault("day;", 3, 1);
        fault("day m;", 4, 1);
        fault("day 1 1;", 6, 1);
        fault("m day 1;", 2, 1);
        fault("days 1;", 0, 3);
    }
}
