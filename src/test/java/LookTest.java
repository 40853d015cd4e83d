/** Promises 6 to 11: thing, open, ending, closes, man, now. */
public final class LookTest {
    private static final String TEXT = "kind love;kind debt;kind war;man ann 50;man bob 30;man cid 5;"
            + "thing tale ann love 3 debt 2;thing feud bob war 4;thing song ann love 1;"
            + "ending kiss ann 10 love 2;ending bill bob 6 debt 5;ending peace ann 20 war 4 debt 1;ending nil cid 9;"
            + "false kiss 2;";

    public static void main(String[] args) {
        asTold();
        noSuchOnes();
        asDone();
        Check.finish();
    }

    private static void thing(EndingMarket x, int t, int... due) {
        for (int what = 0; what < due.length; what++) {
            Check.due("thing(" + t + ", " + what + ")", x.thing(t, what), due[what]);
        }
    }

    private static void ending(EndingMarket x, int e, int... due) {
        for (int what = 0; what < due.length; what++) {
            Check.due("ending(" + e + ", " + what + ")", x.ending(e, what), due[what]);
        }
    }

    private static void man(EndingMarket x, int m, int... due) {
        for (int what = 0; what < due.length; what++) {
            Check.due("man(" + m + ", " + what + ")", x.man(m, what), due[what]);
        }
    }

    private static void now(EndingMarket x, int... due) {
        for (int what = 0; what < due.length; what++) {
            Check.due("now(" + what + ")", x.now(what), due[what]);
        }
    }

    private static void asTold() {
        EndingMarket x = Check.of(TEXT);
        thing(x, 0, 0, 5, 0, 3, 3, 0);
        thing(x, 1, 1, 4, 0, 4, 0, 0);
        thing(x, 2, 0, 1, 0, 1, 1, 0);
        ending(x, 0, 0, 10, -1, -1, 0, 0, 2);
        ending(x, 2, 0, 20, -1, -1, 0, 0, 5);
        ending(x, 3, 2, 9, -1, -1, 0, 0, 0);
        man(x, 0, 50, 5, 5, 0, 0);
        man(x, 1, 30, 2, 2, 0, 0);
        man(x, 2, 5, 0, 8, 0, 0);
        now(x, 0, 0, 0, 85, 10, 0);
        int[][] open = {{3, 2, 0}, {0, 0, 4}, {1, 0, 0}};
        int[][] closes = {{2, 0, 0}, {0, 5, 0}, {0, 1, 4}, {0, 0, 0}};
        for (int k = 0; k < 3; k++) {
            for (int t = 0; t < 3; t++) {
                Check.due("open " + t + " " + k, x.open(t, k), open[t][k]);
            }
            for (int e = 0; e < 4; e++) {
                Check.due("closes " + e + " " + k, x.closes(e, k), closes[e][k]);
            }
        }
    }

    private static void noSuchOnes() {
        EndingMarket x = Check.of(TEXT);
        int[][] none = {{3, 0}, {-1, 0}, {0, 6}, {0, -1}, {Integer.MIN_VALUE, Integer.MAX_VALUE}};
        for (int[] n : none) {
            Check.due("thing throws " + n[0] + " " + n[1], Check.thingThrows(x, n[0], n[1]), true);
            Check.due("open " + n[0] + " " + n[1], x.open(n[0], n[1]), -1);
            Check.due("man " + n[0] + " " + n[1], x.man(n[0], n[1]), -1);
        }
        Check.due("ending throws 4", Check.endingThrows(x, 4, 0), true);
        Check.due("ending throws -1", Check.endingThrows(x, -1, 0), true);
        Check.due("ending throws what 7", Check.endingThrows(x, 0, 7), true);
        Check.due("ending throws what -1", Check.endingThrows(x, 0, -1), true);
        Check.due("ending 6", Check.endingThrows(x, 0, 6), false);
        Check.due("thing 5", Check.thingThrows(x, 0, 5), false);
        Check.due("open kind 3", x.open(0, 3), -1);
        Check.due("closes kind 3", x.closes(0, 3), -1);
        Check.due("closes kind -1", x.closes(0, -1), -1);
        Check.due("closes ending 4", x.closes(4, 0), -1);
        Check.due("closes ending -1", x.closes(-1, 0), -1);
        Check.due("man what 5", x.man(0, 5), -1);
        Check.due("now 6", x.now(6), -1);
        Check.due("now -1", x.now(-1), -1);
    }

    private static void asDone() {
        EndingMarket x = Check.of(TEXT);
        x.days(1);
        Check.due("put kiss to song", x.put(0, 0, 2), 0);
        Check.due("buy bill", x.buy(0, 1), 0);
        thing(x, 2, 0, 0, 1, 0, 0, 0);
        ending(x, 0, -1, 9, 2, 1, 0, 0, 2);
        ending(x, 1, 0, 5, -1, -1, 0, 1, 5);
        man(x, 0, 45, 5, 6, 1, 1);
        man(x, 1, 35, 2, 0, 0, 0);
        now(x, 1, 4, 1, 85, 9, 0);
        x.days(2);
        // Only what was open there is open again: 1, though it could close 2. Bought or put, none gets cheaper.
        thing(x, 2, 0, 1, 1, 1, 0, 1);
        ending(x, 0, -1, 9, 2, 1, 1, 0, 2);
        ending(x, 1, 0, 5, -1, -1, 0, 1, 5);
        ending(x, 2, 0, 17, -1, -1, 0, 0, 5);
        now(x, 3, 0, 1, 85, 10, 1);
    }
}
