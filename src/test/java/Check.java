import java.util.NoSuchElementException;

/** What the tests share: counting wrong answers, and feeding texts. */
final class Check {
    private static final int MOST_TOLD = 50;
    private static int wrong = 0;
    private static int asked = 0;
    private static String about = "";

    private Check() {
    }

    static void due(String call, long got, long want) {
        asked++;
        if (got != want) {
            wrong++;
            tell(about + call + " answered " + got + ", due is " + want);
        }
    }

    private static void tell(String line) {
        if (wrong <= MOST_TOLD) {
            System.out.println(line);
        }
    }

    /** What stands ahead of each wrong answer that is printed from now on. */
    static void about(String what) {
        about = what;
    }

    static int asked() {
        return asked;
    }

    static void due(String call, boolean got, boolean want) {
        due(call, got ? 1 : 0, want ? 1 : 0);
    }

    static void finish() {
        System.out.println(asked + " answers looked at, " + wrong + " not as due");
        if (wrong != 0) {
            System.exit(1);
        }
    }

    /** Feeds bytes (characters 0 to 255) behind the tape, and ends the tape behind them. */
    static void feed(EndingMarket x, String bytes) {
        int size = x.count(5);
        int[] number = new int[5];
        for (int from = 0; from < bytes.length(); from += 20) {
            for (int i = 0; i < 20; i++) {
                int at = from + i;
                number[i / 4] = number[i / 4] << 8 | (at < bytes.length() ? bytes.charAt(at) : 0);
            }
            x.feed(number[0], number[1], number[2], number[3], number[4]);
        }
        x.end(size + bytes.length());
    }

    static int market(EndingMarket x, String text) {
        feed(x, text);
        return x.market();
    }

    static int ledger(EndingMarket x, String text, int lives) {
        feed(x, text);
        return x.ledger(lives);
    }

    static int sentence(EndingMarket x, String text) {
        feed(x, text);
        return x.sentence();
    }

    static int was(EndingMarket x, String bytes) {
        feed(x, bytes);
        return x.was();
    }

    /** A new object with this market, which must have no fault. */
    static EndingMarket of(String text) {
        EndingMarket x = new EndingMarket();
        int lines = market(x, text);
        if (lines < 0) {
            due("market of " + text, lines, 0);
        }
        return x;
    }

    static void fault(String text, int place, int kind) {
        EndingMarket x = new EndingMarket();
        due("market " + text, market(x, text), -1 - place);
        due("fault of market " + text, x.fault(), kind);
        due("tape behind market " + text, x.count(5), 0);
    }

    static void ledgerFault(EndingMarket x, String text, int place, int kind) {
        due("ledger " + text, ledger(x, text, 0), -2 - place);
        due("fault of ledger " + text, x.fault(), kind);
        due("tape behind ledger " + text, x.count(5), 0);
    }

    static void sentenceFault(EndingMarket x, String text, int place, int kind) {
        due("sentence " + text, sentence(x, text), -1 - place);
        due("fault of sentence " + text, x.fault(), kind);
        due("tape behind sentence " + text, x.count(5), 0);
    }

    static boolean thingThrows(EndingMarket x, int t, int what) {
        try {
            x.thing(t, what);
            return false;
        } catch (NoSuchElementException e) {
            return true;
        }
    }

    static boolean endingThrows(EndingMarket x, int e, int what) {
        try {
            x.ending(e, what);
            return false;
        } catch (NoSuchElementException t) {
            return true;
        }
    }

    static String times(int n, String part) {
        StringBuilder all = new StringBuilder();
        for (int i = 0; i < n; i++) {
            all.append(part);
        }
        return all.toString();
    }
}
