/** Promises 25 to 29: haggle, rounds, likes, gets, trade. */
public final class BargainTest {
    public static void main(String[] args) {
        haggling();
        liking();
        twoRings();
        threeInARing();
        likeOnes();
        comingWithTheFirst();
        Check.finish();
    }

    private static void haggling() {
        StringBuilder text = new StringBuilder("man m 66;man n 0;");
        int[] prices = {0, 1, 2, 3, 4, 6, 7, 98, 99};
        for (int i = 0; i < prices.length; i++) {
            text.append("ending ").append((char) ('a' + i)).append(" n ").append(prices[i]).append(';');
        }
        EndingMarket x = Check.of(text.toString());
        Check.due("ahead of any", x.rounds(), -1);
        int[] at = {0, 0, 1, 2, 2, 4, 4, 65, 66};
        int[] round = {0, 1, 1, 1, 2, 2, 3, 33, 33};
        for (int e = 0; e < prices.length; e++) {
            Check.due("haggle for " + prices[e], x.haggle(0, e), at[e]);
            Check.due("rounds for " + prices[e], x.rounds(), round[e]);
        }
        Check.due("it is no buying", x.man(0, 0) * 10 + x.ending(8, 5), 660);
        Check.due("buy", x.buy(0, 1), 0);
        Check.due("above his coin", x.haggle(0, 8), -1);
        Check.due("it is his", x.haggle(1, 0), -1);
        int[][] none = {{2, 0}, {-1, 0}, {0, 9}, {0, -1}};
        for (int[] n : none) {
            Check.due("haggle " + n[0] + " " + n[1], x.haggle(n[0], n[1]), -1);
        }
        Check.due("stays", x.rounds(), 33);
        EndingMarket y = Check.of("kind k;man m 9;man n 9;thing t m k 1;ending e m 1 k 1;");
        y.put(0, 0, 0);
        Check.due("it is put", y.haggle(1, 0), -1);
    }

    private static void liking() {
        EndingMarket x = Check.of("kind k;kind l;man m 9;man n 9;thing s m k 2;thing t m k 4 l 1;thing u n k 9;"
                + "ending a m 1 k 3;ending b m 1 k 9 l 9;ending c n 1 l 1;ending d n 1;ending e m 1 k 1;");
        int[][] due = {{3, 5, 1, 0, 1}, {3, 0, 0, 0, 1}};
        for (int m = 0; m < 2; m++) {
            for (int e = 0; e < 5; e++) {
                Check.due("likes " + m + " " + e, x.likes(m, e), due[m][e]);
            }
        }
        x.put(0, 4, 1);
        Check.due("it is put", x.likes(0, 4), -1);
        int[][] none = {{2, 0}, {-1, 0}, {0, 5}, {0, -1}};
        for (int[] n : none) {
            Check.due("likes " + n[0] + " " + n[1], x.likes(n[0], n[1]), -1);
        }
    }

    private static void gets(EndingMarket x, int... due) {
        for (int m = 0; m < due.length; m++) {
            Check.due("gets " + m, x.gets(m), due[m]);
        }
        Check.due("gets " + due.length, x.gets(due.length), -1);
        Check.due("gets -1", x.gets(-1), -1);
    }

    private static void twoRings() {
        // m and n trade; o likes what n has best, but it is gone then; p has none.
        EndingMarket x = Check.of("kind k;kind l;man m 9;man n 9;man o 9;man p 9;thing s m k 3;thing t n l 3;"
                + "thing u o k 2;ending a m 1 l 3;ending b n 1 k 3;ending c o 1 l 1;dusk 0;");
        gets(x, 1, 0, 2, -1);
        Check.due("trade", x.trade(), 2);
        Check.due("who has a", x.ending(0, 0), 1);
        Check.due("who has b", x.ending(1, 0), 0);
        Check.due("who has c", x.ending(2, 0), 2);
        Check.due("no coin goes", x.man(0, 0), 9);
        Check.due("it is no buying", x.ending(0, 5) + x.man(0, 3), 0);
        Check.due("nothing more to trade", x.trade(), 0);
        Check.due("undo", x.undo(), 0);
        Check.due("who has a", x.ending(0, 0), 0);
        // Likes nothing: the lesser number is better.
        EndingMarket y = Check.of("man m 9;man n 9;ending a n 1;ending b m 1;");
        gets(y, 1, 0);
        Check.due("nobody trades", y.trade(), 0);
        Check.due("nothing to undo", y.undo(), -1);
    }

    private static void threeInARing() {
        EndingMarket x = Check.of("kind j;kind k;kind l;man m 9;man n 9;man o 9;man p 9;thing s m j 1;thing t n k 1;"
                + "thing u o l 1;thing v p j 5;ending a p 1 k 9;ending b o 1 j 1;ending c m 1 k 1;ending d n 1 l 1;");
        // m wants b of o, o wants d of n, n wants a of p (like c, the lesser number), p wants b of o.
        gets(x, 2, 0, 3, 1);
        Check.due("trade", x.trade(), 3);
        Check.due("m keeps c", x.ending(2, 0), 0);
        Check.due("p has b", x.ending(1, 0), 3);
    }

    private static void likeOnes() {
        // m likes b and c alike: the lesser number, which is of n here and of o there.
        EndingMarket x = Check.of("kind k;kind l;man m 9;man n 9;man o 9;thing s m k 1;thing t n l 1;thing u o l 1;"
                + "ending a m 1 l 1;ending b n 1 k 1;ending c o 1 k 1;");
        gets(x, 1, 0, 2);
        Check.market(x, "kind k;kind l;man m 9;man n 9;man o 9;thing s m k 1;thing t n l 1;thing u o l 1;"
                + "ending a m 1 l 1;ending b o 1 k 1;ending c n 1 k 1;");
        gets(x, 1, 2, 0);
        // Nobody likes any: all point at the first that is left, so each goes alone.
        Check.market(x, "man m 1;man n 1;man o 1;man p 1;man q 1;man r 1;ending a r 1;ending b q 1;ending c p 1;"
                + "ending d o 1;ending e n 1;ending f m 1;");
        gets(x, 5, 4, 3, 2, 1, 0);
        // And all six in one ring: each wants what the next one has.
        Check.market(x, "kind a;kind b;kind c;kind d;kind e;kind f;man m 1;man n 1;man o 1;man p 1;man q 1;man r 1;"
                + "thing s m a 1;thing t n b 1;thing u o c 1;thing v p d 1;thing w q e 1;thing x r f 1;"
                + "ending y n 1 a 1;ending z o 1 b 1;ending aa p 1 c 1;ending bb q 1 d 1;ending cc r 1 e 1;"
                + "ending dd m 1 f 1;");
        gets(x, 0, 1, 2, 3, 4, 5);
        Check.due("trade", x.trade(), 6);
    }

    private static void comingWithTheFirst() {
        EndingMarket x = Check.of("kind k;man m 9;man n 9;thing s m k 5;thing t n k 5;ending a m 1 k 1;ending b m 1 k 1;"
                + "ending c n 1 k 2;ending d n 1 k 9;");
        // Only a and c come: both like c best.
        gets(x, 0, 2);
        x.put(0, 0, 0);
        x.put(1, 2, 1);
        gets(x, 1, 3);
        x.put(0, 1, 0);
        gets(x, -1, 3);
        Check.due("trade", x.trade(), 0);
    }
}
