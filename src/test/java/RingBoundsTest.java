/** Terms, the part marked ==== 3: HAGGLED and RINGS. */
public final class RingBoundsTest {
    public static void main(String[] args) {
        Bounds.run(RingBoundsTest.class);
    }

    private static void gets(EndingMarket x, int... due) {
        for (int m = 0; m < due.length; m++) {
            Check.due("gets " + m, x.gets(m), due[m]);
        }
    }

    @Says(at = "Terms", quote = "HAGGLED: who would buy bids 0, who has it asks the PRICE;")
    private static void atOnce() {
        EndingMarket x = Check.of("man m 9;man n 0;ending a n 0;ending b n 1;");
        Check.due("0 against 0", x.haggle(0, 0), 0);
        Check.due("no round", x.rounds(), 0);
        Check.due("0 against 1", x.haggle(0, 1), 0);
        Check.due("one round", x.rounds(), 1);
        x.days(1);
        Check.due("the price now", x.haggle(0, 1), 0);
        Check.due("no round", x.rounds(), 0);
    }

    @Says(at = "Terms", quote = "ROUND by ROUND: the bid is 2 more, the PRICE asked 1 less;")
    private static void roundByRound() {
        for (int price = 0; price <= 99; price++) {
            EndingMarket x = Check.of("man m 99;man n 0;ending a n " + price + ";");
            int bid = 0;
            int asked = price;
            int round = 0;
            while (bid < asked) {
                bid += 2;
                asked -= 1;
                round++;
            }
            Check.due("haggle for " + price, x.haggle(0, 0), asked);
            Check.due("rounds for " + price, x.rounds(), round);
        }
    }

    @Says(at = "Terms", quote = "they meet when the bid is as much as is asked, at least: at what is asked then;")
    private static void whereTheyMeet() {
        EndingMarket x = Check.of("man m 99;man n 0;ending a n 3;ending b n 4;ending c n 5;ending d n 6;");
        Check.due("2 and 2: as much", x.haggle(0, 0), 2);
        Check.due("round", x.rounds(), 1);
        Check.due("2 and 3: not yet; 4 and 2: at what is asked", x.haggle(0, 1), 2);
        Check.due("round", x.rounds(), 2);
        Check.due("2 and 4: not yet; 4 and 3: at what is asked", x.haggle(0, 2), 3);
        Check.due("round", x.rounds(), 2);
        Check.due("4 and 4: as much", x.haggle(0, 3), 4);
        Check.due("round", x.rounds(), 2);
        // It is no buying.
        Check.due("coin", x.man(0, 0), 99);
        Check.due("who has it", x.ending(3, 0), 1);
        Check.due("price", x.ending(3, 1), 6);
    }

    @Says(at = "Terms", quote = "never, if that is above the coin of who would buy.")
    private static void notAboveHisCoin() {
        int[] coin = {0, 3, 4, 5};
        int[] due = {-1, -1, 4, 4};
        for (int i = 0; i < coin.length; i++) {
            EndingMarket x = Check.of("man m " + coin[i] + ";man n 0;ending a n 6;");
            Check.due("at 4, coin " + coin[i], x.haggle(0, 0), due[i]);
            Check.due("rounds", x.rounds(), due[i] == -1 ? -1 : 2);
            Check.due("though he may not buy it so", x.buy(0, 0), 3);
        }
        EndingMarket x = Check.of("man m 0;man n 0;ending a n 0;ending b n 2;ending c n 99;");
        Check.due("for nothing", x.haggle(0, 0), 0);
        Check.due("at 1", x.haggle(0, 1), -1);
        Check.due("at 66", x.haggle(0, 2), -1);
        EndingMarket y = Check.of("man m 66;man n 65;man o 0;ending c o 99;");
        Check.due("66 and 66", y.haggle(0, 0), 66);
        Check.due("66 and 65", y.haggle(1, 0), -1);
    }

    @Says(at = "Terms", quote = "RINGS: each MAN who has an ENDING that is not put comes with the first of them.")
    private static void whoComes() {
        EndingMarket x = Check.of("kind k;man m 9;man n 9;man o 9;thing t n k 9;thing u o k 1;ending a n 1 k 1;ending b n 1 k 5;"
                + "ending c o 1 k 1;dusk 0;");
        Check.due("m has none", x.gets(0), -1);
        gets(x, -1, 0, 2);
        x.put(1, 0, 0);
        Check.due("n comes with b now", x.gets(1), 1);
        x.put(2, 2, 1);
        Check.due("o has put his", x.gets(2), -1);
        x.undo();
        Check.due("o has it again, and b is gone with n", x.gets(2), 2);
        x.undo();
        x.buy(0, 2);
        gets(x, 2, 0, -1);
        Check.due("the first of two", x.buy(1, 2), 0);
        gets(x, -1, 0, -1);
        EndingMarket none = Check.of("man m 9;man n 9;");
        gets(none, -1, -1);
    }

    @Says(at = "Terms", quote = "He LIKES an ENDING by how much it closes of that THING of his which it FITS and of which it closes most (0: it FITS none);")
    private static void howMuchHeLikes() {
        EndingMarket x = Check.of("kind k;kind l;man m 9;man n 9;thing r m;thing s m k 2;thing t m k 4 l 1;thing u n k 9 l 9;"
                + "ending a n 1 k 3;ending b n 1 k 9 l 9;ending c n 1 l 1;ending d n 1;ending e m 1 k 1;ending f n 1 k 5;");
        Check.due("3 of t, 2 of s", x.likes(0, 0), 3);
        Check.due("4 and 1 of t; it does not fit s", x.likes(0, 1), 5);
        Check.due("1 of t", x.likes(0, 2), 1);
        Check.due("it closes none", x.likes(0, 3), 0);
        Check.due("his own, too", x.likes(0, 4), 1);
        Check.due("no more than is open", x.likes(0, 5), 4);
        Check.due("of u", x.likes(1, 1), 18);
        Check.due("of u", x.likes(1, 5), 5);
        x.put(0, 4, 2);
        Check.due("as it is now", x.likes(0, 5), 3);
        // He has no THING, or none with something open.
        EndingMarket y = Check.of("kind k;man m 9;man n 9;thing t n;ending a n 1 k 3;");
        Check.due("no thing", y.likes(0, 0), 0);
        Check.due("nothing is open", y.likes(1, 0), 0);
        EndingMarket z = Check.of("kind k;kind l;man m 9;thing t m k 9;ending a m 1 k 9 l 1;");
        Check.due("it fits none, though it could close 9", z.likes(0, 0), 0);
    }

    @Says(at = "Terms", quote = "more is better, then the lesser number (of the ENDING).")
    private static void whichIsBetter() {
        // m: a closes 1, b and c close 2. b is n's in the first, o's in the other.
        String text = "kind k;man m 9;man n 9;man o 9;thing t m k 2;ending a m 1 k 1;";
        EndingMarket x = Check.of(text + "ending b n 1 k 2;ending c o 1 k 2;dusk 0;");
        gets(x, 1, 0, 2);
        EndingMarket y = Check.of(text + "ending b o 1 k 2;ending c n 1 k 2;");
        gets(y, 1, 2, 0);
        // More is better than the lesser number.
        EndingMarket z = Check.of("kind k;man m 9;man n 9;man o 9;thing t m k 3;ending a m 1 k 1;ending b n 1 k 2;ending c o 1 k 3;");
        gets(z, 2, 1, 0);
        // Who likes none takes the lesser number, another man's before his own; and his own, if it is that.
        EndingMarket w = Check.of("man m 9;man n 9;ending a n 1;ending b m 1;");
        gets(w, 1, 0);
        EndingMarket v = Check.of("kind k;man m 9;man n 9;thing t m k 1;ending a m 1 k 1;ending b n 1 k 1;");
        gets(v, 0, 1);
    }

    @Says(at = "Terms", quote = "Each points at whoever has the one that he LIKES best of those that are left;")
    private static void ofThoseThatAreLeft() {
        // o likes a (of m) best, but m and n have gone with each other's then: of what is left, his own.
        EndingMarket x = Check.of("kind k;kind l;man m 9;man n 9;man o 9;thing s m k 3;thing t n l 3;thing u o l 2;"
                + "ending a m 1 l 3;ending b n 1 k 3;ending c o 1 l 1;");
        gets(x, 1, 0, 2);
        // p would have a, too: of c and d, which are alike to him, c is the lesser number, and o likes d better.
        EndingMarket y = Check.of("kind k;kind l;man m 9;man n 9;man o 9;man p 9;thing s m k 3;thing t n l 3;thing u o l 2;"
                + "thing v p l 1;ending a m 1 l 3;ending b n 1 k 3;ending c o 1 l 1;ending d p 1 l 2;");
        gets(y, 1, 0, 3, 2);
    }

    @Says(at = "Terms", quote = "all who stand in a ring have what they point at, and go;")
    private static void ringsOfAllLengths() {
        // Of n men each wants what the next one has, and the last what the first one has.
        for (int n = 1; n <= 6; n++) {
            StringBuilder text = new StringBuilder("kind a;kind b;kind c;kind d;kind e;kind f;");
            for (int m = 0; m < n; m++) {
                text.append("man m").append((char) ('a' + m)).append(" 1;");
            }
            for (int m = 0; m < n; m++) {
                char kind = (char) ('a' + m);
                text.append("thing t").append(kind).append(" m").append(kind).append(' ').append(kind).append(" 1;");
                text.append("ending e").append(kind).append(" m").append((char) ('a' + (m + 1) % n)).append(" 1 ")
                        .append(kind).append(" 1;");
            }
            EndingMarket x = Check.of(text.toString());
            for (int m = 0; m < n; m++) {
                Check.due("of " + n + ", gets " + m, x.gets(m), m);
            }
            Check.due("trade of " + n, x.trade(), n == 1 ? 0 : n);
        }
        // Who only points at one in a ring stands in none.
        EndingMarket x = Check.of("kind k;kind l;man m 9;man n 9;man o 9;thing s m k 3;thing t n l 3;thing u o k 3;"
                + "ending a m 1 l 3;ending b n 1 k 3;ending c o 1;");
        gets(x, 1, 0, 2);
        Check.due("two trade", x.trade(), 2);
        // Two rings at once.
        EndingMarket y = Check.of("kind a;kind b;kind c;kind d;man m 9;man n 9;man o 9;man p 9;thing s m a 1;thing t n b 1;"
                + "thing u o c 1;thing v p d 1;ending e m 1 b 1;ending f n 1 a 1;ending g o 1 d 1;ending h p 1 c 1;");
        gets(y, 1, 0, 3, 2);
        Check.due("four trade", y.trade(), 4);
    }

    @Says(at = "Terms", quote = "so on till all are gone.")
    private static void tillAllAreGone() {
        // All like the same one best, then the next: six times one goes alone.
        EndingMarket x = Check.of("kind k;man a 1;man b 1;man c 1;man d 1;man e 1;man f 1;thing ta a k 9;thing tb b k 9;"
                + "thing tc c k 9;thing td d k 9;thing te e k 9;thing tf f k 9;ending ea a 1 k 4;ending eb b 1 k 5;"
                + "ending ec c 1 k 6;ending ed d 1 k 7;ending ee e 1 k 8;ending ef f 1 k 9;");
        gets(x, 0, 1, 2, 3, 4, 5);
        Check.due("nobody has another one", x.trade(), 0);
        // A chain at whose end two rings follow one another.
        EndingMarket y = Check.of("kind k;kind l;man a 1;man b 1;man c 1;man d 1;thing ta a k 9;thing tb b k 9;thing tc c k 9;"
                + "thing td d l 9;ending ea d 1 k 9;ending eb a 1 l 5;ending ec b 1 k 5;ending ed c 1 k 6;");
        // a wants ea of d, and d wants eb of a; b and c want ea, then ed of c: c goes alone, then b.
        gets(y, 0, 2, 3, 1);
        Check.due("two trade", y.trade(), 2);
    }
}
