/** What the object is for, and promises 1 to 15, sentence by sentence. */
public final class FirstPromisesTest {
    // Two kinds, three men, three things, four endings.
    private static final String TEXT = "kind k;kind l;man m 9;man n 7;man o 0;thing s m k 5;thing t n k 3 l 2;thing u m;"
            + "ending a m 2 k 4;ending b m 3 k 9;ending c n 4 l 2;ending d n 5;false a 2;dusk 1;";
    private static final int LINES = 14;
    private static final int[] NO_NUMBERS = {Integer.MIN_VALUE, Integer.MIN_VALUE + 1, -33, -32, -2, -1, 10, 11, 16, 31, 32, 33,
        64, 256, 1 << 30, Integer.MAX_VALUE};

    public static void main(String[] args) {
        Bounds.run(FirstPromisesTest.class);
    }

    @Says(at = "What it is", quote = "An object is used for at most 512 calls after it has been made;")
    private static void theLastCall() {
        EndingMarket x = new EndingMarket();
        Check.due("call 1", x.feed(0x6b696e64, 0x206b3b6d, 0x616e206d, 0x20393b74, 0x68696e67), 20);
        x.feed(0x2074206d, 0x206b2035, 0x3b656e64, 0x696e6720, 0x65206d20);
        x.feed(0x31206b20, 0x353b0000, 0, 0, 0);
        x.end(46);
        Check.due("call 5", x.market(), 4);
        for (int call = 6; call < 512; call++) {
            if (call % 2 == 0) {
                Check.due("call " + call, x.put(0, 0, 0), 0);
            } else {
                Check.due("call " + call, x.undo(), 0);
            }
        }
        Check.due("call 512", x.now(1), 0);
    }

    @Says(at = "Promise 1: A new object", quote = "An empty MARKET; an empty tape.")
    private static void aNewObject() {
        EndingMarket x = new EndingMarket();
        for (int what = 0; what < 6; what++) {
            Check.due("count " + what, x.count(what), what == 4 ? 1 : 0);
            Check.due("now " + what, x.now(what), 0);
        }
        Check.due("no kind, no thing", x.open(0, 0), -1);
        Check.due("no kind, no ending", x.closes(0, 0), -1);
        Check.due("no man", x.man(0, 0), -1);
        Check.due("no thing", Check.thingThrows(x, 0, 0), true);
        Check.due("no ending", Check.endingThrows(x, 0, 0), true);
        Check.due("no byte", x.end(1), false);
        Check.due("nothing can be undone", x.undo(), -1);
        Check.due("days go by", x.days(1), 1);
        Check.due("no lines", x.market(), 0);
        Check.due("two objects have nothing in common", new EndingMarket().now(0) + x.count(2), 0);
        x.days(5);
        Check.due("nothing at all", new EndingMarket().now(0), 0);
    }

    @Says(at = "Promise 2: feed", quote = "Twenty bytes come behind the tape, of each number the highest first: how many it has;")
    private static void twentyBytes() {
        EndingMarket x = Check.of("");
        // was() reads the bytes: of a MARKET without kinds each is the number of an ENDING, and ten are unlike.
        Check.due("feed", x.feed(0, -1, 1, Integer.MIN_VALUE, Integer.MAX_VALUE), 20);
        Check.due("feed", x.feed(0, 0, 0, 0, 0), 40);
        Check.due("bytes", x.count(5), 40);
        // A byte of each number at a time: the FAULT shows where it came.
        for (int i = 0; i < 20; i++) {
            EndingMarket y = new EndingMarket();
            int[] n = {0x20202020, 0x20202020, 0x20202020, 0x20202020, 0x20202020};
            n[i / 4] ^= 0x61 << 24 - i % 4 * 8;
            Check.due("feed", y.feed(n[0], n[1], n[2], n[3], n[4]), 20);
            Check.due("byte " + i, y.market(), -1 - i);
        }
        // Behind what is there, wherever it ends.
        EndingMarket z = new EndingMarket();
        Check.feed(z, "kind");
        Check.due("4 and 20", z.feed(0x206b3b6b, 0x696e6420, 0x6c3b2020, 0x20202020, 0x20202020), 24);
        Check.due("kind k;kind l;", z.market(), 2);
        Check.due("from the beginning again", z.feed(0, 0, 0, 0, 0), 20);
    }

    @Says(at = "Promise 2: feed", quote = "NONE, and none come, if it would have more than 940.")
    private static void atMost940() {
        EndingMarket x = new EndingMarket();
        for (int i = 1; i <= 47; i++) {
            Check.due("feed " + i, x.feed(0x20202020, 0x20202020, 0x20202020, 0x20202020, 0x20202020), 20 * i);
        }
        Check.due("full", x.feed(0x61616161, 0x61616161, 0x61616161, 0x61616161, 0x61616161), -1);
        Check.due("none came", x.count(5), 940);
        int[] sizes = {939, 930, 922, 921};
        for (int size : sizes) {
            x.end(size);
            Check.due("behind " + size, x.feed(0, 0, 0, 0, 0), -1);
            Check.due("none came", x.count(5), size);
        }
        x.end(920);
        Check.due("behind 920", x.feed(0x20202020, 0x20202020, 0x20202020, 0x20202020, 0x20202020), 940);
        x.end(900);
        Check.due("only blanks were there", x.market(), 0);
        Check.due("empty again", x.feed(0, 0, 0, 0, 0), 20);
    }

    @Says(at = "Promise 3: end", quote = "The tape has its first n bytes alone: true;")
    private static void theFirstBytesAlone() {
        EndingMarket x = new EndingMarket();
        Check.due("0 of none", x.end(0), true);
        Check.feed(x, "kind k;kind l;      ");
        Check.due("all twenty", x.end(20), true);
        Check.due("bytes", x.count(5), 20);
        Check.due("nineteen", x.end(19), true);
        Check.due("seven", x.end(7), true);
        Check.due("bytes", x.count(5), 7);
        Check.due("the first line alone", x.market(), 1);
        Check.feed(x, "kind k;");
        Check.due("none", x.end(0), true);
        Check.due("nothing is left", x.market(), 0);
    }

    @Says(at = "Promise 3: end", quote = "false, if it has not so many, or n is below 0.")
    private static void notSoMany() {
        EndingMarket x = new EndingMarket();
        Check.due("1 of none", x.end(1), false);
        Check.feed(x, "kind k;kind l;");
        int[] none = {15, 20, 940, Integer.MAX_VALUE, -1, -14, Integer.MIN_VALUE};
        for (int n : none) {
            Check.due("end " + n, x.end(n), false);
            Check.due("bytes", x.count(5), 14);
        }
        Check.due("14", x.end(14), true);
        x.end(7);
        Check.due("what is gone does not come back", x.end(14), false);
        Check.due("bytes", x.count(5), 7);
    }

    @Says(at = "Promise 4: market", quote = "The tape (empty then, with a FAULT, too, here and below) is the MARKET now: how many LINES;")
    private static void theMarketNow() {
        EndingMarket x = new EndingMarket();
        Check.due("lines", Check.market(x, TEXT), LINES);
        Check.due("empty", x.count(5), 0);
        Check.due("with a fault", Check.market(x, "kind"), -5);
        Check.due("empty", x.count(5), 0);
        String[] texts = {"day 1;", "day", "ended", "or", "\5\0", "\5"};
        for (int i = 0; i < texts.length; i++) {
            Check.feed(x, texts[i]);
            Check.due("bytes", x.count(5), texts[i].length());
            int answer = i < 2 ? x.ledger(0) : i < 4 ? x.sentence() : x.was();
            Check.due("with a fault, or none", answer < -1 || i == 5 && answer == -1 || i == 3, i % 2 == 1);
            Check.due("empty", x.count(5), 0);
        }
        Check.due("no lines", x.market(), 0);
        Check.due("no things", x.count(2), 0);
        Check.due("the same text is as new", Check.market(x, TEXT), LINES);
    }

    @Says(at = "Promise 4: market", quote = "-1 less the place of a FAULT: it stays.")
    private static void theMarketStays() {
        EndingMarket x = Check.of(TEXT);
        x.buy(0, 2);
        x.put(0, 0, 0);
        Check.due("at 0", Check.market(x, ";"), -1);
        Check.due("at 1", Check.market(x, " ;"), -2);
        Check.due("at 900", Check.market(x, Check.times(901, " ")), -901);
        Check.due("behind good lines", Check.market(x, TEXT + "kind"), -1 - TEXT.length() - 4);
        Check.due("things", x.count(2), 3);
        Check.due("put", x.now(2), 1);
        Check.due("coin", x.man(0, 0), 5);
        Check.due("names", Check.sentence(x, "of o and fits d"), 2);
        Check.due("undo", x.undo(), 1);
        EndingMarket y = new EndingMarket();
        Check.market(y, TEXT + "kind");
        Check.due("an empty one stays, too", y.count(0) + y.count(1) + y.count(2) + y.count(3), 0);
        Check.due("dusk", y.count(4), 1);
    }

    @Says(at = "Promise 5: fault", quote = "The kind of the FAULT of the latest market(), ledger() or sentence()")
    private static void theKindOfTheFault() {
        EndingMarket x = new EndingMarket();
        String[] markets = {";", "dusk 10;", "thing t m;", "kind a;kind b;kind c;kind d;kind e;kind f;kind g;"};
        for (int kind = 1; kind <= 4; kind++) {
            Check.market(x, markets[kind - 1]);
            Check.due("market", x.fault(), kind);
            Check.due("again", x.fault(), kind);
        }
        Check.market(x, TEXT);
        Check.due("none", x.fault(), 0);
        String[] ledgers = {";", "day 61;", "x buys a;", Check.times(41, "day 1;")};
        for (int kind = 1; kind <= 4; kind++) {
            Check.ledger(x, ledgers[kind - 1], 0);
            Check.due("ledger", x.fault(), kind);
        }
        Check.ledger(x, "m buys b;", 0);
        Check.due("a wrong line is no fault", x.fault(), 0);
        // No NUMBER of a SENTENCE is other than told: it has no FAULT of the second kind.
        String[] sentences = {";", "open<1000", "of x", "ended ended"};
        int[] kinds = {1, 1, 3, 1};
        for (int i = 0; i < 4; i++) {
            Check.sentence(x, sentences[i]);
            Check.due("sentence", x.fault(), kinds[i]);
        }
        Check.sentence(x, Check.times(9, "not ") + "ended");
        Check.due("sentence", x.fault(), 4);
        x.was();
        x.street(-1);
        x.buy(9, 9);
        Check.due("other calls leave it", x.fault(), 4);
    }

    @Says(at = "Promise 5: fault", quote = "(a ledger() of -1000 leaves it);")
    private static void anotherLivesLeavesIt() {
        EndingMarket x = Check.of(TEXT);
        Check.market(x, "dusk 10;");
        Check.feed(x, "x");
        Check.due("another lives", x.ledger(2), -1000);
        Check.due("as it was", x.fault(), 2);
        Check.due("now", x.ledger(0), -2);
        Check.due("of the ledger", x.fault(), 3);
        Check.due("another lives", x.ledger(-1), -1000);
        Check.due("as it was", x.fault(), 3);
        Check.due("an empty one", x.ledger(1), -1);
        Check.due("none", x.fault(), 0);
        Check.feed(x, "x");
        Check.due("another lives", x.ledger(2), -1000);
        Check.due("none yet", x.fault(), 0);
    }

    @Says(at = "Promise 5: fault", quote = "0 without one and ahead of any.")
    private static void withoutAFault() {
        EndingMarket x = new EndingMarket();
        Check.due("ahead of any", x.fault(), 0);
        x.ledger(2);
        Check.due("ahead of any", x.fault(), 0);
        x.was();
        Check.due("ahead of any", x.fault(), 0);
        Check.market(x, "kind");
        Check.market(x, "kind k;");
        Check.due("without one", x.fault(), 0);
        Check.market(x, "kind");
        Check.ledger(x, "", 0);
        Check.due("without one", x.fault(), 0);
        Check.market(x, "kind");
        Check.sentence(x, "ended");
        Check.due("without one", x.fault(), 0);
    }

    @Says(at = "Promise 6: thing", quote = "Of a THING: 0 whose it is, 1 all that is open, 2 how many ENDINGS were put to it, 3 KINDS open, as "
            + "bits, 4 ENDINGS that FIT it (not put), as bits, 5 how often something of it went on in the dark.")
    private static void ofAThing() {
        EndingMarket x = Check.of(TEXT);
        int[][] due = {{0, 5, 0, 1, 3, 0}, {1, 5, 0, 3, 7, 0}, {0, 0, 0, 0, 0, 0}};
        thingsAre(x, due);
        x.put(0, 0, 0);
        x.put(1, 2, 1);
        thingsAre(x, new int[][] {{0, 1, 1, 1, 2, 0}, {1, 3, 1, 1, 2, 0}, {0, 0, 0, 0, 0, 0}});
        x.put(0, 1, 0);
        thingsAre(x, new int[][] {{0, 0, 2, 0, 0, 0}, {1, 3, 1, 1, 0, 0}, {0, 0, 0, 0, 0, 0}});
        x.days(2);
        thingsAre(x, new int[][] {{0, 4, 2, 1, 0, 1}, {1, 3, 1, 1, 0, 0}, {0, 0, 0, 0, 0, 0}});
        // The most: nine of each of six KINDS, and ten ENDINGS that FIT; one of them closes 2 of the last KIND.
        StringBuilder text = new StringBuilder("kind a;kind b;kind c;kind d;kind e;kind f;man m 1;thing t m a 9 b 9 c 9 d 9 e 9 f 9;");
        for (int e = 0; e < 10; e++) {
            text.append("ending e").append((char) ('a' + e)).append(" m 1 a 1 b 1 c 1 d 1 e 1 f ").append(e == 9 ? 2 : 1)
                    .append(";false e").append((char) ('a' + e)).append(" 1;");
        }
        EndingMarket y = Check.of(text.toString());
        thingsAre(y, new int[][] {{0, 54, 0, 63, 1023, 0}});
        for (int e = 9; e > 0; e--) {
            Check.due("put " + e, y.put(0, e, 0), e == 1 ? 3 : 0);
        }
        thingsAre(y, new int[][] {{0, 5, 8, 31, 0, 0}});
        y.days(1);
        thingsAre(y, new int[][] {{0, 54, 8, 63, 3, 8}});
    }

    private static void thingsAre(EndingMarket x, int[][] due) {
        for (int t = 0; t < due.length; t++) {
            for (int what = 0; what < 6; what++) {
                Check.due("thing " + t + " " + what, x.thing(t, what), due[t][what]);
            }
        }
    }

    @Says(at = "Promise 6: thing", quote = "NoSuchElementException: no such ones.")
    private static void noSuchThing() {
        EndingMarket x = Check.of(TEXT);
        Check.due("the last", Check.thingThrows(x, 2, 5), false);
        Check.due("the first", Check.thingThrows(x, 0, 0), false);
        Check.due("one behind the last", Check.thingThrows(x, 3, 0), true);
        Check.due("another what", Check.thingThrows(x, 0, 6), true);
        Check.due("another what", Check.thingThrows(x, 2, -1), true);
        for (int n : NO_NUMBERS) {
            Check.due("thing " + n, Check.thingThrows(x, n, 0), true);
            Check.due("what " + n, Check.thingThrows(x, 0, n), true);
            Check.due("neither " + n, Check.thingThrows(x, n, n), true);
        }
        EndingMarket y = Check.of("man m 1;thing a m;thing b m;thing c m;thing d m;thing e m;thing f m;thing g m;thing h m;");
        Check.due("the eighth", Check.thingThrows(y, 7, 0), false);
        Check.due("a ninth", Check.thingThrows(y, 8, 0), true);
    }

    @Says(at = "Promise 7: open", quote = "How much of a KIND is open in a THING;")
    private static void howMuchIsOpen() {
        EndingMarket x = Check.of(TEXT);
        int[][] due = {{5, 0}, {3, 2}, {0, 0}};
        for (int t = 0; t < 3; t++) {
            for (int k = 0; k < 2; k++) {
                Check.due("open " + t + " " + k, x.open(t, k), due[t][k]);
            }
        }
        x.put(0, 0, 0);
        Check.due("less", x.open(0, 0), 1);
        x.days(2);
        Check.due("again", x.open(0, 0), 5);
    }

    @Says(at = "Promise 7: open", quote = "NONE: no such ones.")
    private static void noSuchOpen() {
        EndingMarket x = Check.of(TEXT);
        Check.due("one thing more", x.open(3, 0), -1);
        Check.due("one kind more", x.open(0, 2), -1);
        for (int n : NO_NUMBERS) {
            Check.due("thing " + n, x.open(n, 0), -1);
            Check.due("kind " + n, x.open(0, n), -1);
            Check.due("neither " + n, x.open(n, n), -1);
        }
        EndingMarket y = Check.of("man m 1;thing t m;");
        Check.due("no kinds", y.open(0, 0), -1);
    }

    @Says(at = "Promise 8: ending", quote = "Of an ENDING: 0 who has it (NONE: it is put), 1 PRICE, 2 the THING to which it was put (NONE), "
            + "3 the DAY on which it was (NONE), 4 whether it went on in the dark (1, 0), 5 how often it was bought, 6 all that it closes.")
    private static void ofAnEnding() {
        EndingMarket x = Check.of(TEXT);
        endingsAre(x, new int[][] {{0, 2, -1, -1, 0, 0, 4}, {0, 3, -1, -1, 0, 0, 9}, {1, 4, -1, -1, 0, 0, 2}, {1, 5, -1, -1, 0, 0, 0}});
        x.put(0, 0, 0);
        x.buy(0, 3);
        x.buy(1, 3);
        endingsAre(x, new int[][] {{-1, 2, 0, 0, 0, 0, 4}, {0, 3, -1, -1, 0, 0, 9}, {1, 4, -1, -1, 0, 0, 2}, {1, 5, -1, -1, 0, 2, 0}});
        x.days(1);
        x.put(1, 2, 1);
        endingsAre(x, new int[][] {{-1, 2, 0, 0, 0, 0, 4}, {0, 2, -1, -1, 0, 0, 9}, {-1, 3, 1, 1, 0, 0, 2}, {1, 5, -1, -1, 0, 2, 0}});
        x.days(1);
        endingsAre(x, new int[][] {{-1, 2, 0, 0, 1, 0, 4}, {0, 1, -1, -1, 0, 0, 9}, {-1, 3, 1, 1, 0, 0, 2}, {1, 5, -1, -1, 0, 2, 0}});
    }

    private static void endingsAre(EndingMarket x, int[][] due) {
        for (int e = 0; e < due.length; e++) {
            for (int what = 0; what < 7; what++) {
                Check.due("ending " + e + " " + what, x.ending(e, what), due[e][what]);
            }
        }
    }

    @Says(at = "Promise 8: ending", quote = "NoSuchElementException: no such ones.")
    private static void noSuchEnding() {
        EndingMarket x = Check.of(TEXT);
        Check.due("the last", Check.endingThrows(x, 3, 6), false);
        Check.due("the first", Check.endingThrows(x, 0, 0), false);
        Check.due("one behind the last", Check.endingThrows(x, 4, 0), true);
        Check.due("another what", Check.endingThrows(x, 0, 7), true);
        for (int n : NO_NUMBERS) {
            Check.due("ending " + n, Check.endingThrows(x, n, 0), true);
            Check.due("what " + n, Check.endingThrows(x, 0, n), true);
        }
        x.put(0, 0, 0);
        Check.due("one that is put is there", Check.endingThrows(x, 0, 0), false);
    }

    @Says(at = "Promise 9: closes", quote = "How much of a KIND an ENDING closes;")
    private static void howMuchItCloses() {
        EndingMarket x = Check.of(TEXT);
        int[][] due = {{4, 0}, {9, 0}, {0, 2}, {0, 0}};
        for (int e = 0; e < 4; e++) {
            for (int k = 0; k < 2; k++) {
                Check.due("closes " + e + " " + k, x.closes(e, k), due[e][k]);
            }
        }
        x.put(0, 0, 0);
        x.put(0, 1, 0);
        Check.due("as told, though 1 was open", x.closes(1, 0), 9);
    }

    @Says(at = "Promise 9: closes", quote = "NONE: no such ones.")
    private static void noSuchCloses() {
        EndingMarket x = Check.of(TEXT);
        Check.due("one ending more", x.closes(4, 0), -1);
        Check.due("one kind more", x.closes(0, 2), -1);
        for (int n : NO_NUMBERS) {
            Check.due("ending " + n, x.closes(n, 0), -1);
            Check.due("kind " + n, x.closes(0, n), -1);
        }
        EndingMarket y = Check.of("man m 1;ending e m 1;");
        Check.due("no kinds", y.closes(0, 0), -1);
    }

    @Says(at = "Promise 10: man", quote = "Of a MAN: 0 coin, 1 his THINGS, as bits, 2 his ENDINGS (not put), as bits, 3 how often he bought, "
            + "4 how often he put.")
    private static void ofAMan() {
        EndingMarket x = Check.of(TEXT);
        menAre(x, new int[][] {{9, 5, 3, 0, 0}, {7, 2, 12, 0, 0}, {0, 0, 0, 0, 0}});
        x.put(0, 0, 0);
        x.buy(1, 1);
        menAre(x, new int[][] {{12, 5, 0, 0, 1}, {4, 2, 14, 1, 0}, {0, 0, 0, 0, 0}});
        x.put(1, 1, 1);
        x.buy(0, 2);
        x.buy(0, 3);
        menAre(x, new int[][] {{3, 5, 12, 2, 1}, {13, 2, 0, 1, 1}, {0, 0, 0, 0, 0}});
        x.buy(0, 3);
        x.put(0, 0, 0);
        menAre(x, new int[][] {{3, 5, 12, 2, 1}, {13, 2, 0, 1, 1}, {0, 0, 0, 0, 0}});
        EndingMarket all = Check.of("man m 1;man n 999;thing a n;thing b n;thing c n;thing d n;thing e n;thing f n;thing g n;thing h n;"
                + "ending ea n 1;ending eb n 1;ending ec n 1;ending ed n 1;ending ee n 1;ending ef n 1;ending eg n 1;"
                + "ending eh n 1;ending ei n 1;ending ej n 1;");
        menAre(all, new int[][] {{1, 0, 0, 0, 0}, {999, 255, 1023, 0, 0}});
    }

    private static void menAre(EndingMarket x, int[][] due) {
        for (int m = 0; m < due.length; m++) {
            for (int what = 0; what < 5; what++) {
                Check.due("man " + m + " " + what, x.man(m, what), due[m][what]);
            }
        }
    }

    @Says(at = "Promise 10: man", quote = "NONE: no such ones.")
    private static void noSuchMan() {
        EndingMarket x = Check.of(TEXT);
        Check.due("one man more", x.man(3, 0), -1);
        Check.due("another what", x.man(0, 5), -1);
        for (int n : NO_NUMBERS) {
            Check.due("man " + n, x.man(n, 0), -1);
            Check.due("what " + n, x.man(0, n), -1);
        }
        EndingMarket y = Check.of("man a 1;man b 2;man c 3;man d 4;man e 5;man f 6;");
        Check.due("the sixth", y.man(5, 0), 6);
        Check.due("a seventh", y.man(6, 0), -1);
    }

    @Says(at = "Promise 11: now", quote = "0 the DAY, 1 THINGS in which nothing is open, as bits, 2 ENDINGS that are put, as bits, 3 all coin, "
            + "4 all that is open, 5 how often something went on in the dark.")
    private static void nowItIsSo() {
        EndingMarket x = Check.of(TEXT);
        nowIs(x, 0, 4, 0, 16, 10, 0);
        x.put(0, 0, 0);
        nowIs(x, 0, 4, 1, 16, 6, 0);
        x.put(0, 1, 0);
        nowIs(x, 0, 5, 3, 16, 5, 0);
        x.buy(0, 3);
        x.put(1, 2, 1);
        x.days(2);
        nowIs(x, 2, 4, 7, 16, 7, 1);
        EndingMarket all = Check.of("kind k;man a 999;man b 999;man c 999;man d 999;man e 999;man f 999;thing s a;thing t a;"
                + "thing u a;thing v a;thing w a;thing x a;thing y a;thing z a;");
        nowIs(all, 0, 255, 0, 5994, 0, 0);
    }

    private static void nowIs(EndingMarket x, int... due) {
        for (int what = 0; what < 6; what++) {
            Check.due("now " + what, x.now(what), due[what]);
        }
    }

    @Says(at = "Promise 11: now", quote = "NONE for another what.")
    private static void noSuchNow() {
        EndingMarket x = Check.of(TEXT);
        Check.due("now 5", x.now(5), 0);
        Check.due("now 6", x.now(6), -1);
        for (int n : NO_NUMBERS) {
            Check.due("now " + n, x.now(n), -1);
        }
    }

    @Says(at = "Promise 12: buy", quote = "A MAN BUYS an ENDING: 0, or why not;")
    private static void buying() {
        EndingMarket x = Check.of(TEXT);
        Check.due("he buys it", x.buy(0, 2), 0);
        Check.due("he has it", x.buy(0, 2), 2);
        Check.due("no coin", x.buy(2, 0), 3);
        x.put(0, 0, 0);
        Check.due("it is put", x.buy(1, 0), 1);
        Check.due("back for the last of his coin", x.buy(1, 2), 0);
        Check.due("done twice", x.undo(), 2);
    }

    @Says(at = "Promise 12: buy", quote = "NONE: no such ones.")
    private static void noSuchBuying() {
        EndingMarket x = Check.of(TEXT);
        Check.due("one man more", x.buy(3, 0), -1);
        Check.due("one ending more", x.buy(0, 4), -1);
        for (int n : NO_NUMBERS) {
            Check.due("man " + n, x.buy(n, 2), -1);
            Check.due("ending " + n, x.buy(0, n), -1);
        }
        x.put(0, 0, 0);
        Check.due("of one that is put, too", x.buy(3, 0), -1);
        Check.due("nothing but that was done", x.undo(), 0);
    }

    @Says(at = "Promise 13: put", quote = "A MAN PUTS an ENDING to a THING: 0, or why not;")
    private static void putting() {
        EndingMarket x = Check.of(TEXT);
        Check.due("not his", x.put(0, 2, 0), 2);
        Check.due("it does not fit", x.put(0, 0, 2), 3);
        Check.due("he puts it", x.put(0, 0, 0), 0);
        Check.due("it is put", x.put(0, 0, 0), 1);
        Check.due("done once", x.undo(), 0);
    }

    @Says(at = "Promise 13: put", quote = "NONE: no such ones.")
    private static void noSuchPutting() {
        EndingMarket x = Check.of(TEXT);
        Check.due("one man more", x.put(3, 0, 0), -1);
        Check.due("one ending more", x.put(0, 4, 0), -1);
        Check.due("one thing more", x.put(0, 0, 3), -1);
        for (int n : NO_NUMBERS) {
            Check.due("man " + n, x.put(n, 0, 0), -1);
            Check.due("ending " + n, x.put(0, n, 0), -1);
            Check.due("thing " + n, x.put(0, 0, n), -1);
        }
        x.put(0, 0, 0);
        Check.due("of one that is put, too", x.put(0, 0, 3), -1);
        Check.due("of another's, too", x.put(1, 1, 3), -1);
    }

    @Says(at = "Promise 14: days", quote = "n (1 to 60) DAYS go by: how many did;")
    private static void daysGoBy() {
        EndingMarket x = Check.of(TEXT);
        Check.due("1", x.days(1), 1);
        Check.due("2", x.days(2), 2);
        Check.due("59", x.days(59), 59);
        Check.due("60", x.days(60), 60);
        Check.due("day", x.now(0), 122);
        for (int i = 0; i < 4; i++) {
            Check.due("60", x.days(60), 60);
        }
        Check.due("day", x.now(0), 362);
        Check.due("37 of 37", x.days(37), 37);
        Check.due("1 of 2", x.days(2), 1);
        Check.due("0 of 60", x.days(60), 0);
        Check.due("0 of 1", x.days(1), 0);
        Check.due("day", x.now(0), 400);
    }

    @Says(at = "Promise 14: days", quote = "NONE: not as told.")
    private static void noSuchDays() {
        EndingMarket x = Check.of(TEXT);
        int[] none = {0, -1, 61, 62, 100, 400, Integer.MIN_VALUE, Integer.MAX_VALUE};
        for (int n : none) {
            Check.due("days " + n, x.days(n), -1);
        }
        Check.due("none went by", x.now(0), 0);
        Check.due("nothing was done", x.undo(), -1);
        for (int i = 0; i < 7; i++) {
            x.days(60);
        }
        Check.due("when all are over, too", x.days(61), -1);
        Check.due("when all are over, too", x.days(0), -1);
    }

    @Says(at = "Promise 15: undo", quote = "The latest of buy(), put() that was done, days() above 0, drawn() above 0, a LEDGER of which a LINE "
            + "was lived, trade() above 0 is undone:")
    private static void theLatestIsUndone() {
        EndingMarket x = Check.of("kind k;kind l;man m 9;man n 9;thing s m k 5;thing t n l 5;ending a m 1 l 5;ending b n 2 k 5;"
                + "ending c m 3;ending d n 9 l 1;");
        Check.due("buy", x.buy(0, 3), 0);
        Check.due("put", x.put(1, 3, 1), 2);
        Check.due("trade", x.trade(), 2);
        Check.due("put", x.put(0, 1, 0), 0);
        Check.due("days", x.days(5), 5);
        Check.due("drawn", x.drawn(3, 1), 3);
        Check.due("ledger", Check.ledger(x, "day 1;m buys c;", 1), 1);
        Check.due("day", x.now(0), 9);
        Check.due("ledger", x.undo(), 5);
        Check.due("day", x.now(0), 8);
        Check.due("drawn", x.undo(), 4);
        Check.due("day", x.now(0), 5);
        Check.due("days", x.undo(), 3);
        Check.due("day", x.now(0), 0);
        Check.due("put", x.undo(), 2);
        Check.due("put", x.now(2), 0);
        Check.due("who has b", x.ending(1, 0), 0);
        Check.due("trade", x.undo(), 1);
        Check.due("who has b", x.ending(1, 0), 1);
        Check.due("buy", x.undo(), 0);
        Check.due("who has d", x.ending(3, 0), 1);
    }

    @Says(at = "Promise 15: undo", quote = "put() that was done, days() above 0, drawn() above 0, a LEDGER of which a LINE was lived, trade() above 0")
    private static void whatWasNotDone() {
        EndingMarket x = Check.of("man m 9;man n 9;thing t m;ending a m 1;ending b n 2;");
        for (int i = 0; i < 7; i++) {
            x.days(60);
        }
        Check.due("one of seven", x.undo(), 6);
        x.days(40);
        Check.due("buy", x.buy(0, 0), 2);
        Check.due("put", x.put(0, 0, 0), 3);
        Check.due("days 0", x.days(60), 0);
        Check.due("days NONE", x.days(61), -1);
        Check.due("drawn 0", x.drawn(60, 5), 0);
        Check.due("drawn NONE", x.drawn(0, 5), -1);
        Check.due("a ledger without a line", Check.ledger(x, "", 1), -1);
        Check.due("one whose first line is wrong", Check.ledger(x, "m buys a;m buys b;", 1), 0);
        Check.due("one that is judged alone", Check.ledger(x, "m buys b;", 0), -1);
        Check.due("one with a fault", Check.ledger(x, "m buys b;m", 1), -12);
        Check.due("trade 0", x.trade(), 0);
        x.image(0);
        Check.sentence(x, "ended");
        x.haggle(0, 1);
        Check.due("the latest days", x.undo(), 6);
        Check.due("day", x.now(0), 360);
        Check.due("what would be said stays", x.said(-1), 1);
    }

    @Says(at = "Promise 15: undo", quote = "how many more can be (8 at most are kept);")
    private static void atMostEight() {
        for (int done = 1; done <= 20; done++) {
            EndingMarket x = Check.of(TEXT);
            for (int i = 0; i < done; i++) {
                x.days(1);
            }
            int kept = Math.min(done, 8);
            for (int i = kept - 1; i >= 0; i--) {
                Check.due(done + " done: undo", x.undo(), i);
            }
            Check.due("day", x.now(0), done - kept);
            Check.due("no more", x.undo(), -1);
        }
        // What is undone makes room for others.
        EndingMarket x = Check.of(TEXT);
        for (int i = 0; i < 9; i++) {
            x.days(1);
        }
        Check.due("7 more", x.undo(), 7);
        Check.due("6 more", x.undo(), 6);
        x.days(10);
        x.days(10);
        x.days(10);
        for (int i = 7; i >= 0; i--) {
            Check.due("undo", x.undo(), i);
        }
        Check.due("day", x.now(0), 2);
    }

    @Says(at = "Promise 15: undo", quote = "NONE: none is.")
    private static void noneIsUndone() {
        EndingMarket x = Check.of(TEXT);
        Check.due("none was done", x.undo(), -1);
        x.days(1);
        Check.due("one", x.undo(), 0);
        Check.due("none", x.undo(), -1);
        Check.due("none", x.undo(), -1);
        Check.due("day", x.now(0), 0);
        x.days(1);
        x.image(0);
        x.restore(0);
        Check.due("none behind a restore", x.undo(), -1);
        Check.due("day", x.now(0), 1);
    }
}
