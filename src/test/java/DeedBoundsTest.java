/** Terms, the part marked ==== 2: what FITS, to BUY, to PUT, and how a DAY goes. */
public final class DeedBoundsTest {
    public static void main(String[] args) {
        Bounds.run(DeedBoundsTest.class);
    }

    private static void pass(EndingMarket x, int days) {
        for (int gone = 0; gone < days; gone += 60) {
            x.days(Math.min(60, days - gone));
        }
    }

    private static int coins(EndingMarket x) {
        return x.man(0, 0) * 1000 + x.man(1, 0);
    }

    @Says(at = "Terms", quote = "An ENDING FITS a THING, if it closes some KIND,")
    private static void closesSomeKind() {
        EndingMarket x = Check.of("kind k;man m 9;thing t m k 1;thing u m;ending none m 0;ending some m 0 k 1;");
        Check.due("closes none", x.fits(0, 0), 0);
        Check.due("closes some", x.fits(1, 0), 1);
        Check.due("closes none, and nothing is open", x.fits(0, 1), 0);
        Check.due("closes some, and nothing is open", x.fits(1, 1), 0);
        Check.due("put what closes none", x.put(0, 0, 0), 3);
        Check.due("which fit", x.thing(0, 4), 2);
        EndingMarket y = Check.of("man m 9;thing t m;ending e m 0;");
        Check.due("where there are no kinds", y.fits(0, 0), 0);
    }

    @Says(at = "Terms", quote = "and each KIND that it closes is open there (some of it).")
    private static void eachKindIsOpen() {
        EndingMarket x = Check.of("kind k;kind l;man m 9;thing t m k 1;thing u m k 9 l 1;ending a m 0 k 1;ending b m 0 k 9;"
                + "ending c m 0 k 1 l 1;ending d m 0 l 1;");
        int[] inT = {1, 1, 0, 0};
        for (int e = 0; e < 4; e++) {
            Check.due("fits t: " + e, x.fits(e, 0), inT[e]);
            Check.due("fits u: " + e, x.fits(e, 1), 1);
        }
        x.put(0, 3, 1);
        Check.due("l is closed in u", x.fits(2, 1), 0);
        Check.due("k is open there yet", x.fits(1, 1), 1);
        x.put(0, 0, 0);
        Check.due("nothing is left in t", x.fits(1, 0), 0);
        // All six, and one of them closed.
        String six = "a 1 b 1 c 1 d 1 e 1 f 1";
        EndingMarket y = Check.of("kind a;kind b;kind c;kind d;kind e;kind f;man m 9;thing t m " + six + ";thing u m a 1 b 1 "
                + "c 1 d 1 e 1;ending all m 0 " + six + ";");
        Check.due("all six are open", y.fits(0, 0), 1);
        Check.due("five of six are open", y.fits(0, 1), 0);
    }

    @Says(at = "Terms", quote = "Put to it, of each KIND as much less is open as it closes (0 at least).")
    private static void asMuchLess() {
        int[] left = {4, 3, 2, 1, 0, 0, 0, 0, 0};
        for (int closed = 1; closed <= 9; closed++) {
            EndingMarket x = Check.of("kind k;kind l;man m 9;thing t m k 5 l 2;thing u m k 5;ending e m 1 k " + closed + ";");
            Check.due("put", x.put(0, 0, 0), 0);
            Check.due("5 less " + closed, x.open(0, 0), left[closed - 1]);
            Check.due("another kind", x.open(0, 1), 2);
            Check.due("another thing", x.open(1, 0), 5);
        }
        EndingMarket x = Check.of("kind k;kind l;man m 9;thing t m k 5 l 2;ending e m 1 k 4 l 3;");
        x.put(0, 0, 0);
        Check.due("k", x.open(0, 0), 1);
        Check.due("l", x.open(0, 1), 0);
    }

    @Says(at = "Terms", quote = "To BUY an ENDING: why not, the least: 1 it was put to a THING;")
    private static void putOnesAreNotBought() {
        EndingMarket x = Check.of("kind k;man m 0;man n 99;thing t m k 5;ending e m 9 k 5;");
        Check.due("not put yet", x.buy(1, 0), 0);
        x.undo();
        x.put(0, 0, 0);
        Check.due("put", x.buy(1, 0), 1);
        Check.due("put by himself, and dearer than his coin", x.buy(0, 0), 1);
        Check.due("nothing is done", coins(x), 99);
        Check.due("no buying", x.man(1, 3) + x.ending(0, 5), 0);
    }

    @Says(at = "Terms", quote = "2 he has it;")
    private static void hisOwnIsNotBought() {
        EndingMarket x = Check.of("man m 5;man n 0;ending e m 5;ending f n 1;ending g n 0;");
        Check.due("he has it, and the coin", x.buy(0, 0), 2);
        Check.due("he has it, and not the coin", x.buy(1, 1), 2);
        Check.due("he has it, for nothing", x.buy(1, 2), 2);
        Check.due("the other one has it", x.buy(0, 1), 0);
        Check.due("now he has it", x.buy(0, 1), 2);
        Check.due("and the other one has not", x.buy(1, 1), 0);
    }

    @Says(at = "Terms", quote = "3 his coin is below its PRICE:")
    private static void coinBelowThePrice() {
        int[] coin = {0, 4, 5, 6};
        int[] why = {3, 3, 0, 0};
        for (int i = 0; i < coin.length; i++) {
            EndingMarket x = Check.of("man m " + coin[i] + ";man n 0;ending e n 5;");
            Check.due("coin " + coin[i] + ", price 5", x.buy(0, 0), why[i]);
            Check.due("coin then", x.man(0, 0), why[i] == 3 ? coin[i] : coin[i] - 5);
            Check.due("who has it", x.ending(0, 0), why[i] == 3 ? 1 : 0);
        }
        EndingMarket x = Check.of("man m 0;man n 0;ending e n 0;ending f n 1;");
        Check.due("coin 0, price 0", x.buy(0, 0), 0);
        Check.due("coin 0, price 1", x.buy(0, 1), 3);
        x.days(1);
        Check.due("by its price now", x.buy(0, 1), 0);
        EndingMarket y = Check.of("man m 998;man n 999;ending e m 99;");
        Check.due("more than 999 coin", y.buy(1, 0), 0);
        Check.due("may be", y.man(0, 0), 1097);
    }

    @Says(at = "Terms", quote = "the PRICE goes from him to who has it, who has it no more.")
    private static void thePriceGoes() {
        EndingMarket x = Check.of("man m 50;man n 60;man o 70;ending e m 9;ending f m 4;");
        x.buy(1, 0);
        Check.due("from n to m", coins(x), 59051);
        Check.due("m has f alone", x.man(0, 2), 2);
        Check.due("n has e", x.man(1, 2), 1);
        x.buy(2, 0);
        Check.due("not to m, but to n", coins(x), 59060);
        Check.due("from o", x.man(2, 0), 61);
        Check.due("n has it no more", x.man(1, 2), 0);
        Check.due("o has it", x.ending(0, 0), 2);
        Check.due("none is lost", x.now(3), 180);
        // The PRICE stays as it is.
        Check.due("price", x.ending(0, 1), 9);
    }

    @Says(at = "Terms", quote = "To PUT an ENDING to a THING: 1 it was put to a THING;")
    private static void putOnesAreNotPut() {
        EndingMarket x = Check.of("kind k;man m 9;man n 9;thing t m k 5;thing u n k 5;ending e m 1 k 5;");
        x.put(0, 0, 0);
        Check.due("to the same one, which it fits no more", x.put(0, 0, 0), 1);
        Check.due("neither his nor", x.put(1, 0, 0), 1);
        Check.due("by another one to his own", x.put(1, 0, 1), 1);
        Check.due("to that of another one", x.put(0, 0, 1), 1);
        x.undo();
        Check.due("undone", x.put(0, 0, 0), 0);
    }

    @Says(at = "Terms", quote = "2 it is not his, or the THING is not;")
    private static void bothMustBeHis() {
        EndingMarket x = Check.of("kind k;man m 9;man n 9;thing t m k 5;thing u n k 5;thing v n;ending e m 1 k 5;"
                + "ending f n 1 k 5;ending g m 1;");
        Check.due("both are his", x.put(0, 0, 0), 0);
        x.undo();
        Check.due("it is not", x.put(0, 1, 0), 2);
        Check.due("the thing is not", x.put(0, 0, 1), 2);
        Check.due("neither is", x.put(0, 1, 1), 2);
        Check.due("the thing is not, and it does not fit", x.put(0, 2, 1), 2);
        Check.due("the thing is not, and nothing is open", x.put(0, 0, 2), 2);
        Check.due("it is not, and does not fit", x.put(1, 2, 1), 2);
        x.buy(0, 1);
        Check.due("it is now", x.put(0, 1, 0), 0);
    }

    @Says(at = "Terms", quote = "3 it does not FIT: it is put.")
    private static void itMustFit() {
        EndingMarket x = Check.of("kind k;kind l;man m 9;thing t m k 1;ending a m 1 k 1 l 1;ending b m 1;ending c m 1 k 2;"
                + "ending d m 1 k 1;");
        Check.due("a kind is not open", x.put(0, 0, 0), 3);
        Check.due("it closes none", x.put(0, 1, 0), 3);
        Check.due("none is put", x.now(2), 0);
        Check.due("it fits", x.put(0, 2, 0), 0);
        Check.due("it is put", x.now(2), 4);
        Check.due("nothing is open now", x.put(0, 3, 0), 3);
        Check.due("as often as it was done", x.man(0, 4), 1);
    }

    @Says(at = "Terms", quote = "(It can't be brought back.)")
    private static void neverBroughtBack() {
        EndingMarket x = Check.of("kind k;man m 9;man n 9;thing t m k 5;thing u n k 5;ending e m 1 k 5;ending f n 1 k 5;"
                + "false e 1;dusk 0;");
        x.put(0, 0, 0);
        x.days(1);
        Check.due("it went on in the dark", x.open(0, 0), 5);
        Check.due("put", x.put(0, 0, 0), 1);
        Check.due("bought", x.buy(1, 0), 1);
        Check.due("nobody has it", x.ending(0, 0), -1);
        Check.due("not m", x.man(0, 2), 0);
        Check.due("he comes with none", x.gets(0), -1);
        Check.due("it fits nothing", x.fits(0, 0), -1);
        Check.due("which fit", x.thing(0, 4), 2);
        Check.due("a row is of others", x.ends(0), 1);
        Check.due("the row", x.row(0), 1);
        Check.due("a street is of others", x.street(1), 1);
        Check.due("the street", x.has(0), 1);
        Check.due("a tray is of others", x.covers(1), 1);
        Check.due("the tray", x.tray(), 2);
        Check.due("the cheapest is another", x.cheapest(0), 1);
        Check.due("no bargain", x.haggle(1, 0), -1);
        x.buy(0, 1);
        x.put(0, 1, 0);
        Check.due("none is left", x.ends(0) * 10 + x.street(1), 0);
    }

    @Says(at = "Terms", quote = "A DAY (0 to 399; 400: all are over) goes:")
    private static void fourHundredDays() {
        EndingMarket x = Check.of("man m 9;ending e m 99;dusk 0;");
        Check.due("the first day", x.now(0), 0);
        pass(x, 398);
        Check.due("day 398", x.now(0), 398);
        Check.due("it goes", x.days(1), 1);
        Check.due("day 399", x.now(0), 399);
        Check.due("it goes, and no other", x.days(2), 1);
        Check.due("all are over", x.now(0), 400);
        Check.due("none goes", x.days(1), 0);
        Check.due("all are over yet", x.now(0), 400);
        Check.due("a ledger's neither", Check.ledger(x, "day 1;", 0), 0);
        Check.due("why", x.told(0), 21);
        // What is cheaper by DAYS is so 400 times, and not once more.
        EndingMarket y = Check.of("kind k;man m 9;thing t m k 1;ending e m 99 k 1;dusk 0;false e 1;");
        pass(y, 399);
        y.put(0, 0, 0);
        Check.due("it goes on at the end of day 399", y.days(60), 1);
        Check.due("in the dark", y.open(0, 0), 1);
    }

    @Says(at = "Terms", quote = "an ENDING that is false, put on DAY d, goes on in the dark at the end of DAY d and DAYS less 1:")
    private static void theDayOfTheDark() {
        int[] days = {1, 2, 3, 59, 60};
        int[] putOn = {0, 1, 40, 340};
        for (int n : days) {
            for (int d : putOn) {
                EndingMarket x = Check.of("kind k;man m 9;thing t m k 5;ending e m 1 k 5;ending f m 1 k 5;false e " + n
                        + ";dusk 0;");
                pass(x, d);
                x.put(0, 0, 0);
                pass(x, n - 1);
                Check.due("not on day " + (d + n - 1), x.open(0, 0) * 10 + x.ending(0, 4), 0);
                Check.due("but at its end", x.days(1), 1);
                Check.due("something is open again", x.open(0, 0) * 10 + x.ending(0, 4), 51);
                Check.due("day", x.now(0), d + n);
            }
        }
        // One that is not false never does, nor one that was not put.
        EndingMarket x = Check.of("kind k;man m 9;thing t m k 5;thing u m k 5;ending e m 1 k 5;ending f m 1 k 5;false f 1;");
        x.put(0, 0, 0);
        pass(x, 400);
        Check.due("nothing went on", x.now(5) * 10 + x.open(0, 0), 0);
        Check.due("nothing more is open", x.open(1, 0), 5);
        // DAYS are counted from the DAY of putting: on the last DAYS it may be too late.
        EndingMarket y = Check.of("kind k;man m 9;thing t m k 5;thing u m k 5;ending e m 1 k 5;ending f m 1 k 5;false e 2;false f 3;");
        pass(y, 398);
        y.put(0, 0, 0);
        y.put(0, 1, 1);
        pass(y, 2);
        Check.due("at the end of day 399", y.open(0, 0), 5);
        Check.due("never", y.open(1, 0), 0);
    }

    @Says(at = "Terms", quote = "as much of each KIND as it closed there is open again (what was open ahead of it less what was then;")
    private static void asMuchAsItClosed() {
        for (int closes = 1; closes <= 9; closes++) {
            EndingMarket x = Check.of("kind k;kind l;man m 9;thing t m k 5 l 4;ending a m 1 k 2 l 1;ending b m 1 k " + closes
                    + ";ending c m 1 l 3;false b 2;");
            x.put(0, 0, 0);
            x.put(0, 1, 0);
            int left = x.open(0, 0);
            Check.due("k behind both", left, Math.max(0, 3 - closes));
            x.put(0, 2, 0);
            x.days(2);
            Check.due("what b closed, by " + closes, x.open(0, 0), 3);
            Check.due("of no other kind", x.open(0, 1), 0);
        }
        EndingMarket x = Check.of("kind k;kind l;man m 9;thing t m k 5 l 4;ending a m 1 k 9 l 3;ending b m 1 l 9;false a 3;false b 1;");
        x.put(0, 0, 0);
        x.put(0, 1, 0);
        x.days(1);
        Check.due("b closed 1 of l", x.thing(0, 1), 1);
        x.days(2);
        Check.due("a closed 5 and 3", x.open(0, 0) * 10 + x.open(0, 1), 54);
    }

    @Says(at = "Terms", quote = "99 of a KIND at most)")
    private static void neverMoreThan99() {
        // As no more opens again than was closed, it never comes to more than was told: 9 at most, far below 99.
        EndingMarket x = Check.of("kind k;man m 9;thing t m k 9;ending a m 1 k 9;ending b m 1 k 9;ending c m 1 k 5;"
                + "ending d m 1 k 4;ending e m 1 k 3;false a 1;false b 1;false c 3;false d 3;false e 3;");
        x.put(0, 0, 0);
        x.days(1);
        Check.due("all again", x.open(0, 0), 9);
        x.put(0, 1, 0);
        x.days(1);
        Check.due("all again", x.open(0, 0), 9);
        x.put(0, 2, 0);
        x.put(0, 3, 0);
        Check.due("two together", x.open(0, 0), 0);
        Check.due("later", x.later(0, 400), 9);
        x.days(60);
        Check.due("all again", x.open(0, 0), 9);
        x.put(0, 4, 0);
        pass(x, 338);
        Check.due("all again", x.open(0, 0), 9);
    }

    @Says(at = "Terms", quote = "99 of a KIND at most); once.")
    private static void onceOnly() {
        EndingMarket x = Check.of("kind k;man m 9;thing t m k 5;ending e m 1 k 3;ending f m 1 k 5;false e 1;dusk 0;");
        x.put(0, 0, 0);
        x.days(1);
        Check.due("open again", x.open(0, 0), 5);
        Check.due("once", x.now(5), 1);
        x.days(1);
        Check.due("not more", x.open(0, 0), 5);
        x.put(0, 1, 0);
        pass(x, 398);
        Check.due("what another one closed stays so", x.open(0, 0), 0);
        Check.due("once", x.now(5) * 10 + x.thing(0, 5), 11);
    }

    @Says(at = "Terms", quote = "Then each ENDING that was never bought and is not put is 'dusk' cheaper (0 at least).")
    private static void cheaperAtDusk() {
        for (int dusk = 0; dusk <= 9; dusk++) {
            EndingMarket x = Check.of("kind k;man m 99;man n 99;thing t m k 5;ending a m 20 k 5;ending b m 20;ending c m 20;"
                    + "ending d n " + dusk + ";ending e m 0;dusk " + dusk + ";");
            x.put(0, 0, 0);
            x.buy(1, 1);
            x.days(1);
            Check.due("put", x.ending(0, 1), 20);
            Check.due("bought", x.ending(1, 1), 20);
            Check.due("neither", x.ending(2, 1), 20 - dusk);
            Check.due("down to 0", x.ending(3, 1), 0);
            Check.due("0 stays", x.ending(4, 1), 0);
            x.buy(0, 1);
            x.days(3);
            Check.due("bought and back", x.ending(1, 1), 20);
            Check.due("0 at least", x.ending(2, 1), Math.max(0, 20 - 4 * dusk));
        }
        EndingMarket x = Check.of("man m 9;ending e m 8;dusk 9;");
        x.days(1);
        Check.due("8 less 9", x.ending(0, 1), 0);
        EndingMarket y = Check.of("man m 9;man n 9;ending e m 8;dusk 9;");
        y.buy(1, 0);
        y.undo();
        y.days(1);
        Check.due("an undone buying is none", y.ending(0, 1), 0);
    }

    @Says(at = "Terms", quote = "It is the next DAY.")
    private static void theNextDay() {
        EndingMarket x = Check.of("kind k;man m 9;thing t m k 5;ending e m 1 k 5;");
        Check.due("day", x.now(0), 0);
        x.days(1);
        Check.due("the next one", x.now(0), 1);
        x.put(0, 0, 0);
        Check.due("it was put on it", x.ending(0, 3), 1);
        x.days(60);
        Check.due("60 more", x.now(0), 61);
        Check.ledger(x, "day 1;day 2;", 1);
        Check.due("3 more", x.now(0), 64);
        x.drawn(2, 7);
        Check.due("2 more", x.now(0), 66);
    }
}
