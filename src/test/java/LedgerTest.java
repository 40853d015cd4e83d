/** Promises 36 and 37: ledger, told. */
public final class LedgerTest {
    private static final String TEXT = "kind k;man ann 9;man bob 3;thing tale ann k 5;thing poem ann;ending kiss bob 4 k 5;"
            + "ending dot ann 1 k 1;ending wed bob 9;dusk 0;";

    public static void main(String[] args) {
        judged();
        lived();
        wrongs();
        days();
        faults();
        lengths();
        Check.finish();
    }

    private static void told(EndingMarket x, int... due) {
        for (int what = 0; what < 4; what++) {
            Check.due("told " + what, x.told(what), due[what]);
        }
        Check.due("told 4", x.told(4), -1);
        Check.due("told -1", x.told(-1), -1);
    }

    private static void judged() {
        EndingMarket x = Check.of(TEXT);
        told(x, -1, -1, -1, -1);
        Check.due("right", Check.ledger(x, "ann buys kiss;day 3;ann puts kiss tale;", 0), -1);
        Check.due("tape", x.count(5), 0);
        told(x, 0, 3, 3, 3);
        Check.due("all stays", x.now(0) * 100 + x.man(0, 0) * 10 + x.now(2), 90);
        Check.due("nothing to undo", x.undo(), -1);
        Check.due("none", Check.ledger(x, " \n", 0), -1);
        told(x, 0, 0, 0, 2);
        Check.due("wrong", Check.ledger(x, "day 60;day 1;ann puts kiss tale;day 2;", 0), 2);
        told(x, 12, 2, 61, 2);
        Check.feed(x, "day 9;");
        Check.due("another lives", x.ledger(2), -1000);
        Check.due("another lives", x.ledger(-1), -1000);
        Check.due("the tape stays", x.count(5), 6);
        told(x, 12, 2, 61, 2);
        Check.due("now", x.ledger(0), -1);
        told(x, 0, 1, 9, 2);
    }

    private static void lived() {
        EndingMarket x = Check.of(TEXT);
        Check.due("right", Check.ledger(x, "ann buys kiss;day 3;ann puts kiss tale;", 1), -1);
        told(x, 0, 3, 3, 3);
        Check.due("day", x.now(0), 3);
        Check.due("coin", x.man(1, 0), 7);
        Check.due("put on", x.ending(0, 3), 3);
        Check.due("as far as it is right", Check.ledger(x, "day 4;ann buys wed;day 5;", 1), 1);
        told(x, 3, 1, 7, 3);
        Check.due("day", x.now(0), 7);
        Check.due("no line", Check.ledger(x, "ann buys wed;day 5;", 1), 0);
        told(x, 3, 0, 7, 3);
        Check.due("none", Check.ledger(x, "", 1), -1);
        Check.due("undo", x.undo(), 1);
        Check.due("day", x.now(0), 3);
        Check.due("undo", x.undo(), 0);
        Check.due("day", x.now(0), 0);
        Check.due("undo", x.undo(), -1);
    }

    private static void wrong(String text, int line, int why) {
        EndingMarket x = Check.of(TEXT);
        Check.due(text, Check.ledger(x, text, 0), line);
        Check.due("why " + text, x.told(0), why);
    }

    private static void wrongs() {
        wrong("ann buys kiss;ann puts kiss tale;bob buys kiss;", 2, 1);
        wrong("ann buys dot;", 0, 2);
        wrong("bob buys dot;bob buys dot;", 1, 2);
        wrong("ann buys kiss;ann buys wed;", 1, 3);
        wrong("ann puts dot tale;ann puts dot tale;", 1, 11);
        wrong("bob puts kiss tale;", 0, 12);
        wrong("ann puts kiss tale;", 0, 12);
        wrong("ann puts dot poem;", 0, 13);
        wrong("ann puts dot tale;ann buys kiss;ann puts kiss tale;", -1, 0);
    }

    private static void days() {
        EndingMarket x = Check.of(TEXT);
        String year = Check.times(6, "day 60;");
        Check.due("all days", Check.ledger(x, year + "day 40;", 0), -1);
        Check.due("told", x.told(2), 400);
        Check.due("one too many", Check.ledger(x, year + "day 41;", 0), 6);
        told(x, 21, 6, 360, 2);
        Check.due("lived", Check.ledger(x, year + "day 41;day 40;", 1), 6);
        Check.due("day", x.now(0), 360);
        Check.due("undo", x.undo(), 0);
    }

    private static void faults() {
        EndingMarket x = Check.of(TEXT);
        Check.ledger(x, "day 5;", 0);
        Check.ledgerFault(x, ";", 0, 1);
        Check.ledgerFault(x, "day", 3, 1);
        Check.ledgerFault(x, "day 1", 5, 1);
        Check.ledgerFault(x, "day ann;", 4, 1);
        Check.ledgerFault(x, "day 0;", 4, 2);
        Check.ledgerFault(x, "day 61;", 4, 2);
        Check.ledgerFault(x, "day 1 1;", 6, 1);
        Check.ledgerFault(x, "5;", 0, 1);
        Check.ledgerFault(x, "buys ann;", 0, 1);
        Check.ledgerFault(x, "kind ann;", 0, 1);
        Check.ledgerFault(x, "eve buys kiss;", 0, 3);
        Check.ledgerFault(x, "tale buys kiss;", 0, 3);
        Check.ledgerFault(x, "ann", 3, 1);
        Check.ledgerFault(x, "ann ann;", 4, 1);
        Check.ledgerFault(x, "ann day 1;", 4, 1);
        Check.ledgerFault(x, "ann buys", 8, 1);
        Check.ledgerFault(x, "ann buys 1;", 9, 1);
        Check.ledgerFault(x, "ann buys buys;", 9, 1);
        Check.ledgerFault(x, "ann buys eve;", 9, 3);
        Check.ledgerFault(x, "ann buys tale;", 9, 3);
        Check.ledgerFault(x, "ann buys kiss tale;", 14, 1);
        Check.ledgerFault(x, "ann puts kiss;", 13, 1);
        Check.ledgerFault(x, "ann puts tale kiss;", 9, 3);
        Check.ledgerFault(x, "ann puts kiss kiss;", 14, 3);
        Check.ledgerFault(x, "ann puts kiss k;", 14, 3);
        Check.ledgerFault(x, "day 1;Day 1;", 6, 1);
        Check.ledgerFault(x, "day 1;day 1000;", 10, 1);
        // A ledger with a fault is not lived, and not told of.
        Check.due("lives", Check.ledger(x, "day 7;day", 1), -11);
        Check.due("day", x.now(0), 0);
        told(x, 0, 1, 5, 2);
    }

    private static void lengths() {
        EndingMarket x = Check.of(TEXT);
        String forty = Check.times(40, "day 1;");
        Check.due("forty lines", Check.ledger(x, forty, 0), -1);
        Check.due("told", x.told(1), 40);
        Check.ledgerFault(x, forty + "day 1;", 240, 4);
        Check.ledgerFault(x, forty + " ann", 241, 4);
        Check.ledgerFault(x, forty + "eve", 240, 3);
        Check.ledgerFault(x, forty + ";", 240, 1);
        Check.ledgerFault(x, forty + "1", 240, 1);
        String full = "day 2;" + Check.times(394, " ");
        Check.due("400 bytes", Check.ledger(x, full, 0), -1);
        Check.ledgerFault(x, full + "\n", 400, 1);
        Check.ledgerFault(x, "day 2;" + Check.times(393, " ") + "ann buys kiss;", 400, 1);
        Check.ledgerFault(x, "day 2;" + Check.times(393, " ") + "eve buys kiss;", 399, 3);
        Check.ledgerFault(x, "day 2" + Check.times(500, " ") + ";", 400, 1);
    }
}
