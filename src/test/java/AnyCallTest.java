import java.util.NoSuchElementException;
import java.util.Random;

/** No call throws but thing and ending, and these only for no such ones: any numbers, in any state. */
public final class AnyCallTest {
    private static final int[] EDGES = {Integer.MIN_VALUE, Integer.MIN_VALUE + 1, -1001, -1000, -32, -31, -2, -1, 0, 1, 2,
        5, 6, 7, 8, 9, 10, 11, 20, 30, 31, 32, 40, 60, 61, 255, 256, 399, 400, 401, 939, 940, 941, 1023, 1024,
        Integer.MAX_VALUE - 1, Integer.MAX_VALUE};
    private static final String FULL = "kind a;kind b;kind c;kind d;kind e;kind f;man am 999;man bm 999;man cm 999;"
            + "man dm 9;man em 99;man fm 999;thing at am a 9 b 9 c 9 d 9 e 9 f 9;thing bt bm a 1;thing ct cm b 2;"
            + "thing dt dm c 3;thing et em d 4;thing ft fm e 5;thing gt am f 6;thing ht am a 7 b 7;"
            + "ending ae am 9 a 9;ending be bm 9 b 9;ending ce cm 9 c 9;ending de dm 9 d 9;ending ee em 9 e 9;"
            + "ending fe fm 9 f 9;ending ge am 1 a 1 b 1 c 1 d 1 e 1 f 1;ending he am 9 a 5 b 5;ending ie am 9 a 1;"
            + "ending je bm 9 a 1 b 1;false ae 1;false be 2;false ge 3;false ie 60;dusk 1;";
    private static final String[] TEXTS = {FULL, "kind k;man m 1;thing t m k 1;ending e m 1 k 1;", "", "x", "man m 1;",
        "am buys be;am puts ae at;day 60;", "m puts e t;day 1;", "day 60;day 60;day 60;", "has a or of am and not fits ae",
        "((((((((ended", "pages > 0 or open < 9", "number = 7", "\0\0\0\0\0\0\1\2\3", "\0\0", "ended"};

    private static final int MOST_CALLS = 512;
    private static final int MOST_CALLS_AT_ONCE = 60;

    private final Random random;
    private final EndingMarket x = new EndingMarket();
    private final int[] n = new int[5];
    private int calls = 0;

    private AnyCallTest(int run) {
        random = new Random(run);
    }

    public static void main(String[] args) {
        for (int run = 0; run < 600; run++) {
            AnyCallTest test = new AnyCallTest(run);
            Check.due("market", test.begin(run % 3 == 0 ? "" : FULL), run % 3 == 0 ? 0 : 35);
            while (test.calls + MOST_CALLS_AT_ONCE <= MOST_CALLS) {
                test.call(test.random.nextInt(43), run);
            }
        }
        Check.finish();
    }

    private int begin(String text) {
        feed(text);
        calls++;
        return x.market();
    }

    private void feed(String text) {
        Check.feed(x, text);
        calls += (text.length() + 19) / 20 + 2;
    }

    private int any() {
        int what = random.nextInt(10);
        return what < 6 ? random.nextInt(10) : what < 9 ? EDGES[random.nextInt(EDGES.length)] : random.nextInt();
    }

    private void call(int which, int run) {
        for (int i = 0; i < 5; i++) {
            n[i] = any();
        }
        calls++;
        try {
            if (which < 21) {
                first(which);
            } else {
                second(which);
            }
        } catch (NoSuchElementException e) {
            calls++;
            boolean wrong = which == 4 && x.count(2) > n[0] && n[0] >= 0 && n[1] >= 0 && n[1] <= 5
                    || which == 6 && x.count(3) > n[0] && n[0] >= 0 && n[1] >= 0 && n[1] <= 6
                    || which != 4 && which != 6;
            Check.due("run " + run + " call " + which + " throws", wrong, false);
        } catch (RuntimeException e) {
            Check.due("run " + run + " call " + which + " throws " + e, 1, 0);
        }
    }

    private int first(int which) {
        switch (which) {
            case 0:
                return x.feed(n[0], n[1], n[2], n[3], n[4]);
            case 1:
                return x.end(n[0]) ? 1 : 0;
            case 2:
                return x.market();
            case 3:
                return x.fault();
            case 4:
                return x.thing(n[0], n[1]);
            case 5:
                return x.open(n[0], n[1]);
            case 6:
                return x.ending(n[0], n[1]);
            case 7:
                return x.closes(n[0], n[1]);
            case 8:
                return x.man(n[0], n[1]);
            case 9:
                return x.now(n[0]);
            case 10:
                return x.buy(n[0], n[1]);
            case 11:
                return x.put(n[0], n[1], n[2]);
            case 12:
                return x.days(n[0]);
            case 13:
                return x.undo();
            case 14:
                return x.fits(n[0], n[1]);
            case 15:
                return x.ends(n[0]);
            case 16:
                return x.row(n[0]);
            case 17:
                return x.street(n[0]);
            case 18:
                return x.has(n[0]);
            case 19:
                return x.covers(n[0]);
            default:
                return x.tray();
        }
    }

    private int second(int which) {
        switch (which) {
            case 21:
                return x.was();
            case 22:
                return x.ask();
            case 23:
                return x.haggle(n[0], n[1]);
            case 24:
                return x.rounds();
            case 25:
                return x.likes(n[0], n[1]);
            case 26:
                return x.gets(n[0]);
            case 27:
                return x.trade();
            case 28:
                return x.when(n[0]);
            case 29:
                return x.later(n[0], n[1]);
            case 30:
                return x.dark();
            case 31:
                return x.cheapest(n[0]);
            case 32:
                return x.drawn(n[0], n[1]);
            case 33:
                return x.odds(n[0], n[1], n[2]);
            case 34:
                return x.ledger(n[0]);
            case 35:
                return x.told(n[0]);
            case 36:
                return x.sentence();
            case 37:
                return x.said(n[0]);
            case 38:
                return x.image(n[0]) ? 1 : 0;
            case 39:
                return x.restore(n[0]) ? 1 : 0;
            case 40:
                return x.count(n[0]);
            default:
                if (random.nextInt(4) > 0) {
                    x.end(0);
                }
                feed(TEXTS[random.nextInt(TEXTS.length)]);
                return 0;
        }
    }
}
