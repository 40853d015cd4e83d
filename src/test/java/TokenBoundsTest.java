/** Terms: of what TOKENS all texts are made. */
public final class TokenBoundsTest {
    public static void main(String[] args) {
        Bounds.run(TokenBoundsTest.class);
    }

    private static boolean isBlank(char b) {
        return b == 32 || b == 10;
    }

    private static boolean goesOn(char b) {
        return b >= 'a' && b <= 'z' || b >= '0' && b <= '9';
    }

    private static void lines(String text, int lines) {
        EndingMarket x = new EndingMarket();
        Check.due("market " + text, Check.market(x, text), lines);
        Check.due("fault of market " + text, x.fault(), 0);
    }

    private static EndingMarket small() {
        return Check.of("kind k;man m 9;thing t m k 5;ending e m 1 k 5;");
    }

    private static void ledger(String text, int answer, int fault) {
        EndingMarket x = small();
        Check.due("ledger " + text, Check.ledger(x, text, 0), answer);
        Check.due("fault of ledger " + text, x.fault(), fault);
    }

    private static void sentence(String text, int answer, int fault) {
        EndingMarket x = small();
        Check.due("sentence " + text, Check.sentence(x, text), answer);
        Check.due("fault of sentence " + text, x.fault(), fault);
    }

    @Says(at = "Terms", quote = "TOKENS of all texts, with blanks (32, 10) between them or not:")
    private static void blanks() {
        for (char b = 0; b < 256; b++) {
            if (isBlank(b)) {
                lines("kind" + b + "k;", 1);
                lines(b + "kind" + b + b + "k" + b + ";" + b, 1);
                ledger("day" + b + "1" + b + ";" + b, -1, 0);
                sentence(b + "not" + b + "ended" + b, 2, 0);
            } else {
                int place = goesOn(b) ? 0 : 4;
                Check.fault("kind" + b + "k;", place, 1);
                ledger("day" + b + "1;", goesOn(b) ? -2 : -5, 1);
                sentence("not" + b + "ended", goesOn(b) ? -1 : b == '(' ? -10 : -4, 1);
            }
        }
        lines("kind k;man m 9;thing t m k 5;kind l;", 4);
        lines("kind\nk\n;\n\n \nman\nm 9\n;", 2);
        ledger("m puts e t;day 1;", -1, 0);
        sentence("(not(ended)or(open<1))", 6, 0);
        sentence("number=0or ended", -8, 1);
    }

    @Says(at = "Terms", quote = "WORDS: small letters, 1 to 7;")
    private static void words() {
        for (char b = 1; b < 256; b++) {
            if (b >= 'a' && b <= 'z') {
                lines("kind " + b + ";", 1);
                lines("kind " + Check.times(7, String.valueOf(b)) + ";", 1);
                Check.fault("kind " + Check.times(8, String.valueOf(b)) + ";", 5, 1);
            } else if (!isBlank(b)) {
                Check.fault("kind " + b + ";", 5, 1);
            }
        }
        // One too long is no TOKEN, though none such was told: that would be another FAULT.
        ledger("abcdefg buys e;", -2, 3);
        ledger("abcdefgh buys e;", -2, 1);
        sentence("of abcdefg", -4, 3);
        sentence("of abcdefgh", -4, 1);
        EndingMarket x = Check.of("kind abcdefg;man bcdefgh 9;thing t bcdefgh abcdefg 1;thing u bcdefgh;");
        Check.due("a name of seven letters", Check.sentence(x, "of bcdefgh and has abcdefg"), 2);
        Check.due("it is said", x.said(-1), 1);
        Check.due("six of them are another word", Check.sentence(x, "of bcdefg"), -4);
    }

    @Says(at = "Terms", quote = "NUMBERS: 1 to 3 digits;")
    private static void numbers() {
        String[] texts = {"7", "07", "007", "0", "00", "000", "999", "10", "099"};
        int[] coin = {7, 7, 7, 0, 0, 0, 999, 10, 99};
        for (int i = 0; i < texts.length; i++) {
            EndingMarket x = Check.of("man m " + texts[i] + ";");
            Check.due("coin of " + texts[i], x.man(0, 0), coin[i]);
        }
        for (int digit = 0; digit < 10; digit++) {
            EndingMarket x = Check.of("dusk " + digit + ";");
            Check.due("digit " + digit, x.count(4), digit);
        }
        Check.fault("man m 0000;", 6, 1);
        Check.fault("man m 0007;", 6, 1);
        Check.fault("man m 1000;", 6, 1);
        Check.fault("man m 99999999999999999999999;", 6, 1);
        Check.fault("man m 4294967297;", 6, 1);
        Check.fault("man m /;", 6, 1);
        Check.fault("man m :;", 6, 1);
        Check.fault("man m -1;", 6, 1);
        ledger("day 060;", -1, 0);
        ledger("day 0060;", -6, 1);
        sentence("number < 001", 1, 0);
        sentence("number < 0001", -10, 1);
    }

    @Says(at = "Terms", quote = "; < = > ( ) .")
    private static void signs() {
        for (char b = 0; b < 256; b++) {
            if (isBlank(b)) {
                continue;
            }
            String text = "number" + b + "1";
            if (b == '<' || b == '=' || b == '>') {
                sentence(text, 1, 0);
            } else {
                sentence(text, goesOn(b) ? -1 : -7, 1);
            }
            if (b == ';') {
                lines("kind k" + b, 1);
            } else {
                // A letter more makes another name, and the text ends behind it; a digit more is no TOKEN.
                Check.fault("kind k" + b, b >= '0' && b <= '9' ? 5 : b >= 'a' && b <= 'z' ? 7 : 6, 1);
            }
            sentence("(ended" + b, b == ')' ? 2 : goesOn(b) ? -2 : -7, b == ')' ? 0 : 1);
            sentence(b + " ended)", b == '(' ? 2 : -1, b == '(' ? 0 : 1);
        }
    }

    @Says(at = "Terms", quote = "(A WORD, NUMBER goes on as long as small letters and digits do;")
    private static void goingOn() {
        Check.fault("kindk;", 0, 1);
        Check.fault("kind1;", 0, 1);
        Check.fault("dusk1;", 0, 1);
        ledger("day1;", -2, 1);
        ledger("m buyse;", -4, 1);
        sentence("not1", -1, 1);
        sentence("notended", -1, 1);
        sentence("ended2", -1, 1);
        // A sign ends it, and what is neither.
        sentence("number<1", 1, 0);
        sentence("number<1or", -8, 1);
        sentence("(number<1)or(ended)", 4, 0);
        Check.fault("kind kK;", 6, 1);
        Check.fault("kind k\u00e9;", 6, 1);
        Check.fault("man m 1K;", 7, 1);
        Check.fault("man m 1.5;", 7, 1);
        lines("kind abcdefg;kind hijklmn;", 2);
    }

    @Says(at = "Terms", quote = "what is not as told is no TOKEN.)")
    private static void noTokens() {
        Check.fault("kind k1;", 5, 1);
        Check.fault("kind 1k;", 5, 1);
        Check.fault("kind abc4efg;", 5, 1);
        Check.fault("man m 1x;", 6, 1);
        Check.fault("man m x1;", 6, 1);
        Check.fault("man m 12x;", 6, 1);
        // Of a word one letter too long not even the first seven count, nor of a number the first three digits.
        Check.fault("kind k;" + "kindkind k;", 7, 1);
        ledger("m buys eeeeeeee;", -9, 1);
        ledger("day 1111;", -6, 1);
        // All that begins as a name that was told, and goes on.
        ledger("m1 buys e;", -2, 1);
        ledger("m buys e1;", -9, 1);
        sentence("has k9", -5, 1);
        sentence("has 9k", -5, 1);
    }
}
