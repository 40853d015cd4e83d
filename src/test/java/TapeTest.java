/** Promises 1, 2, 3 and 42: a new object, feed, end, count. */
public final class TapeTest {
    public static void main(String[] args) {
        newObject();
        feeding();
        ending();
        counting();
        Check.finish();
    }

    private static void newObject() {
        EndingMarket x = new EndingMarket();
        Check.due("NONE", EndingMarket.NONE, -1);
        for (int what = 0; what < 6; what++) {
            Check.due("new count(" + what + ")", x.count(what), what == 4 ? 1 : 0);
            Check.due("new now(" + what + ")", x.now(what), 0);
        }
        Check.due("new fault", x.fault(), 0);
        Check.due("new row", x.row(0), -1);
        Check.due("new has", x.has(0), -1);
        Check.due("new tray", x.tray(), -1);
        Check.due("new ask", x.ask(), -1);
        Check.due("new rounds", x.rounds(), -1);
        Check.due("new told", x.told(0), -1);
        Check.due("new said", x.said(-1), -1);
        Check.due("new undo", x.undo(), -1);
        Check.due("new restore", x.restore(1), false);
        Check.due("new thing throws", Check.thingThrows(x, 0, 0), true);
        Check.due("new ending throws", Check.endingThrows(x, 0, 0), true);
        Check.due("empty market", x.market(), 0);
        Check.due("empty sentence", x.sentence(), -1);
        Check.due("empty sentence's fault", x.fault(), 1);
    }

    private static void feeding() {
        EndingMarket x = new EndingMarket();
        // "kind a;kind b;    \n;", the highest byte of each number first: the fault shows where each byte is.
        Check.due("feed", x.feed(0x6b696e64, 0x20613b6b, 0x696e6420, 0x623b2020, 0x20200a3b), 20);
        Check.due("market", x.market(), -20);
        Check.due("fault", x.fault(), 1);
        for (int i = 1; i <= 47; i++) {
            Check.due("feed " + i, x.feed(-1, 0, 0, 0, 0), 20 * i);
        }
        Check.due("feed 48", x.feed(0, 0, 0, 0, 0), -1);
        Check.due("bytes", x.count(5), 940);
        x.end(921);
        Check.due("feed on 921", x.feed(0, 0, 0, 0, 0), -1);
        Check.due("bytes", x.count(5), 921);
        x.end(920);
        Check.due("feed on 920", x.feed(0, 0, 0, 0, 0), 940);
    }

    private static void ending() {
        EndingMarket x = new EndingMarket();
        Check.due("end(0) of none", x.end(0), true);
        Check.due("end(1) of none", x.end(1), false);
        x.feed(0x6b696e64, 0x20613b7a, 0, 0, 0);
        Check.due("end(21)", x.end(21), false);
        Check.due("end(-1)", x.end(-1), false);
        Check.due("end(min)", x.end(Integer.MIN_VALUE), false);
        Check.due("bytes", x.count(5), 20);
        Check.due("end(20)", x.end(20), true);
        Check.due("end(7)", x.end(7), true);
        Check.due("end(8)", x.end(8), false);
        Check.due("market", x.market(), 1);
        Check.due("bytes", x.count(5), 0);
    }

    private static void counting() {
        EndingMarket x = Check.of("kind a;kind b;man m 1;man n 2;man o 3;thing t m;thing u m;thing v m;thing w m;"
                + "ending e m 0;ending f m 0;ending g m 0;ending h m 0;ending i m 0;dusk 9;");
        x.feed(0, 0, 0, 0, 0);
        x.end(17);
        int[] due = {2, 3, 4, 5, 9, 17};
        for (int what = 0; what < 6; what++) {
            Check.due("count(" + what + ")", x.count(what), due[what]);
        }
        Check.due("count(-1)", x.count(-1), -1);
        Check.due("count(6)", x.count(6), -1);
        Check.due("market behind bytes 0", Check.market(x, "dusk 0;"), -1);
        Check.due("dusk stays", x.count(4), 9);
        Check.due("market dusk 0", Check.market(x, "dusk 0;"), 1);
        Check.due("dusk 0", x.count(4), 0);
    }
}
