/** Terms: what a SENTENCE is. */
public final class SentenceBoundsTest {
    // s: 4 open (k 3, l 1), t: nothing, u: 2 open (l 2), v: 1 open (k 1).
    private static final String TEXT = "kind k;kind l;man m 9;man n 9;thing s m k 3 l 1;thing t n;thing u n l 2;thing v m k 1;"
            + "ending e m 1 k 1;ending f n 1 l 1;ending g m 1 k 1 l 1;ending h m 1;dusk 0;";

    public static void main(String[] args) {
        Bounds.run(SentenceBoundsTest.class);
    }

    private static EndingMarket market() {
        return Check.of(TEXT);
    }

    private static void said(EndingMarket x, String text, int ones, int... things) {
        Check.due("sentence " + text, Check.sentence(x, text), ones);
        Check.due("fault of sentence " + text, x.fault(), 0);
        Check.due("how many: " + text, x.said(-1), things.length);
        for (int k = 0; k < things.length; k++) {
            Check.due("said " + k + ": " + text, x.said(k), things[k]);
        }
    }

    private static void said(String text, int ones, int... things) {
        said(market(), text, ones, things);
    }

    private static void fault(String text, int place, int kind) {
        Check.sentenceFault(market(), text, place, kind);
    }

    @Says(at = "Terms", quote = "A SENTENCE is a text of at most 200 bytes:")
    private static void atMost200Bytes() {
        said("ended" + Check.times(194, " "), 1, 1);
        said("ended" + Check.times(195, " "), 1, 1);
        fault("ended" + Check.times(196, " "), 200, 1);
        fault("ended" + Check.times(196, "\n"), 200, 1);
        said(Check.times(195, " ") + "ended", 1, 1);
        fault(Check.times(201, " "), 200, 1);
        fault(Check.times(200, " "), 200, 1);
        fault(Check.times(199, " "), 199, 1);
        // Twenty ONES that fill it.
        String nineteen = Check.times(19, "ended  or ");
        said(nineteen + "ended     ", 20, 1);
        fault(nineteen + "ended      ", 200, 1);
    }

    @Says(at = "Terms", quote = "COND: ALL { 'or' ALL }.")
    private static void any() {
        said("ended", 1, 1);
        said("ended or has k", 2, 0, 1, 3);
        said("ended or has k or number = 2", 3, 0, 1, 2, 3);
        said("of m and has l or of n and has l", 4, 0, 2);
        fault("", 0, 1);
        fault(" ", 1, 1);
        fault("or", 0, 1);
        fault("or ended", 0, 1);
        fault("ended or", 8, 1);
        fault("ended or or ended", 9, 1);
        fault("ended ended", 6, 1);
        fault("ended;", 5, 1);
    }

    @Says(at = "Terms", quote = "ALL: ONE { 'and' ONE }.")
    private static void all() {
        said("of m", 1, 0, 3);
        said("of m and has l", 2, 0);
        said("of m and has k and number > 0", 3, 3);
        said("of m and has k and ended", 3);
        // 'and' joins ahead of 'or', on either side of it.
        said("ended or of m and has l", 3, 0, 1);
        said("of m and has l or ended", 3, 0, 1);
        fault("and", 0, 1);
        fault("of m and", 8, 1);
        fault("of m and and ended", 9, 1);
        fault("of m and or ended", 9, 1);
        fault("of m and has", 12, 1);
    }

    @Says(at = "Terms", quote = "ONE: 'not' ONE |")
    private static void not() {
        said("not ended", 2, 0, 2, 3);
        said("not not ended", 3, 1);
        said("not of m and has l", 3, 2);
        said("has l and not of m", 3, 2);
        said("not of m or has l", 3, 0, 1, 2);
        fault("not", 3, 1);
        fault("not and ended", 4, 1);
        fault("ended not", 6, 1);
        fault("ended not ended", 6, 1);
    }

    @Says(at = "Terms", quote = "( COND ) |")
    private static void brackets() {
        said("(ended)", 2, 1);
        said("of m and(ended or has l)", 4, 0);
        said("not(of m and has l)", 4, 1, 2, 3);
        said("(ended or of m)and(has l or number=1)", 6, 0, 1);
        fault("(", 1, 1);
        fault("()", 1, 1);
        fault(")", 0, 1);
        fault("(ended", 6, 1);
        fault("(ended))", 7, 1);
        fault("((ended)", 8, 1);
        fault("(ended or)", 9, 1);
        fault("(ended;)", 6, 1);
    }

    @Says(at = "Terms", quote = "'ended' (nothing is open) |")
    private static void ended() {
        EndingMarket x = market();
        said(x, "ended", 1, 1);
        x.put(0, 0, 3);
        Check.due("the last of v is closed", x.said(-1), 2);
        Check.due("v", x.said(1), 3);
        x.undo();
        Check.due("1 is open in v", x.said(-1), 1);
        fault("ended m", 6, 1);
    }

    @Says(at = "Terms", quote = "'of' MAN |")
    private static void of() {
        said("of m", 1, 0, 3);
        said("of n", 1, 1, 2);
        fault("of", 2, 1);
        fault("of 1", 3, 1);
        fault("of k", 3, 3);
        fault("of s", 3, 3);
        fault("of e", 3, 3);
        fault("of o", 3, 3);
        EndingMarket x = Check.of("man m 1;man n 1;thing t m;");
        said(x, "of n", 1);
    }

    @Says(at = "Terms", quote = "'has' KIND (some of it is open) |")
    private static void has() {
        EndingMarket x = market();
        said(x, "has k", 1, 0, 3);
        said(x, "has l", 1, 0, 2);
        x.put(0, 2, 0);
        said(x, "has l", 1, 2);
        said(x, "has k", 1, 0, 3);
        fault("has", 3, 1);
        fault("has m", 4, 3);
        fault("has s", 4, 3);
        fault("has e", 4, 3);
        fault("has j", 4, 3);
    }

    @Says(at = "Terms", quote = "'fits' ENDING (that one, not put, FITS now) |")
    private static void fits() {
        EndingMarket x = market();
        said(x, "fits e", 1, 0, 3);
        said(x, "fits g", 1, 0);
        said(x, "fits h", 1);
        x.put(0, 0, 0);
        said(x, "fits e", 1);
        said(x, "fits g", 1, 0);
        x.put(0, 2, 0);
        said(x, "fits g", 1);
        said(x, "fits f", 1, 2);
        x.undo();
        said(x, "fits f", 1, 0, 2);
        fault("fits", 4, 1);
        fault("fits s", 5, 3);
        fault("fits m", 5, 3);
        fault("fits k", 5, 3);
        fault("fits i", 5, 3);
    }

    @Says(at = "Terms", quote = "( 'open' | 'pages' | 'number' ) SIGN NUMBER")
    private static void comparisons() {
        String[] words = {"open", "pages", "number"};
        for (String word : words) {
            int n = word.length();
            said(word + "<0", 1);
            said(word + ">999", 1);
            said(word + "<999", 1, 0, 1, 2, 3);
            said(word + "=999", 1);
            fault(word, n, 1);
            fault(word + "<", n + 1, 1);
            fault(word + " 1", n + 1, 1);
            fault(word + "<m", n + 1, 1);
            fault(word + "<1000", n + 1, 1);
            fault(word + "<-1", n + 1, 1);
            fault(word + "<1 1", n + 3, 1);
            fault(word + "(1)", n, 1);
            fault(word + ";1", n, 1);
        }
    }

    @Says(at = "Terms", quote = "(all that is open; how many ENDINGS were put to it; its number).")
    private static void compared() {
        said("open<2", 1, 1, 3);
        said("open<1", 1, 1);
        said("open=2", 1, 2);
        said("open=0", 1, 1);
        said("open>1", 1, 0, 2);
        said("open>4", 1);
        said("number<1", 1, 0);
        said("number=3", 1, 3);
        said("number>2", 1, 3);
        said("number>3", 1);
        said("number=4", 1);
        EndingMarket x = market();
        said(x, "pages=0", 1, 0, 1, 2, 3);
        x.put(0, 0, 0);
        said(x, "pages>0", 1, 0);
        x.put(0, 2, 0);
        said(x, "pages=2", 1, 0);
        said(x, "pages<2", 1, 1, 2, 3);
        said(x, "pages=1", 1);
        said(x, "open=1", 1, 0, 3);
        // What went on in the dark is a page yet.
        EndingMarket y = Check.of("kind k;man m 9;thing t m k 5;ending e m 1 k 5;false e 1;");
        y.put(0, 0, 0);
        y.days(1);
        said(y, "pages=1 and open=5", 2, 0);
    }

    @Says(at = "Terms", quote = "SIGN: < = >.")
    private static void signs() {
        said("open<2", 1, 1, 3);
        said("open=2", 1, 2);
        said("open>2", 1, 0);
        fault("open<=2", 5, 1);
        fault("open==2", 5, 1);
        fault("open><2", 5, 1);
        fault("open!2", 4, 1);
        fault("open:2", 4, 1);
        fault("open?2", 4, 1);
    }

    @Says(at = "Terms", quote = "20 ONES,")
    private static void atMost20Ones() {
        said("ended" + Check.times(18, " or ended"), 19, 1);
        said("ended" + Check.times(19, " or ended"), 20, 1);
        fault("ended" + Check.times(20, " or ended"), 180, 4);
        said("ended" + Check.times(19, " and ended"), 20, 1);
        // Each not and each bracket is one, too.
        said("ended" + Check.times(9, " or not ended"), 19, 0, 1, 2, 3);
        said("ended" + Check.times(9, " or not ended") + " or ended", 20, 0, 1, 2, 3);
        fault("ended" + Check.times(9, " or not ended") + " or(ended)", 126, 4);
        said("ended" + Check.times(9, " or(ended)") + " or ended", 20, 1);
        fault("ended" + Check.times(9, " or(ended)") + " or not ended", 103, 4);
        fault("ended" + Check.times(9, " or(ended)") + " or(ended)", 99, 4);
    }

    @Says(at = "Terms", quote = "8 within one another (the innermost counts, too).")
    private static void atMost8Within() {
        said(Check.times(6, "not ") + "ended", 7, 1);
        said(Check.times(7, "not ") + "ended", 8, 0, 2, 3);
        fault(Check.times(8, "not ") + "ended", 32, 4);
        said(Check.times(7, "(") + "ended" + Check.times(7, ")"), 8, 1);
        fault(Check.times(8, "(") + "ended" + Check.times(8, ")"), 8, 4);
        fault(Check.times(8, "(") + "(", 8, 4);
        fault(Check.times(8, "not ") + "not", 32, 4);
        said("not(not(not(not ended)))", 8, 1);
        fault("not(not(not(not(ended))))", 16, 4);
        // Side by side there may be more.
        String seven = Check.times(7, "(") + "ended" + Check.times(7, ")");
        said(seven + "or " + seven + "or not has k", 18, 1, 2);
        said("(((((((ended or has k or has l and of n)))))))", 11, 0, 1, 2, 3);
        fault("(((((((ended or(ended))))))))", 16, 4);
    }

    @Says(at = "Terms", quote = "It is said of THINGS.")
    private static void saidOfThings() {
        said("ended or not ended", 3, 0, 1, 2, 3);
        EndingMarket x = Check.of("kind k;man m 1;ending e m 1 k 1;");
        said(x, "ended or not ended", 3);
        Check.due("none such", x.said(0), -1);
        EndingMarket y = Check.of("man m 1;thing a m;thing b m;thing c m;thing d m;thing e m;thing f m;thing g m;thing h m;");
        said(y, "ended", 1, 0, 1, 2, 3, 4, 5, 6, 7);
        Check.due("none such", y.said(8), -1);
    }
}
