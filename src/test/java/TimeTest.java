/** Promises 30 to 32: when, later, dark. */
public final class TimeTest {
    public static void main(String[] args) {
        EndingMarket x = Check.of("kind k;kind l;man m 9;thing s m k 5 l 2;thing t m;thing u m k 3;ending a m 1 k 5;"
                + "ending b m 1 k 1 l 2;ending c m 1 k 9;ending d m 1 l 9;false a 3;false b 1;false c 60;");
        Check.due("when s", x.when(0), -1);
        Check.due("when t", x.when(1), 0);
        Check.due("no such", x.when(3) + x.when(-1), -2);
        Check.due("dark", x.dark(), 0);
        x.days(5);
        Check.due("when t", x.when(1), 5);
        x.put(0, 1, 0);
        x.put(0, 0, 0);
        x.put(0, 2, 2);
        Check.due("when s", x.when(0), 5);
        Check.due("dark", x.dark(), 7);
        later(x, 0, 4, -1, 5, 0, 6, 3, 7, 3, 8, 7, 400, 7, 401, -1, -1, -1, Integer.MAX_VALUE, -1);
        later(x, 2, 5, 0, 64, 0, 65, 3, 400, 3);
        later(x, 1, 5, 0, 400, 0);
        Check.due("no such", x.later(3, 5) + x.later(-1, 5), -2);
        Check.due("nothing was done", x.now(0) * 10 + x.now(5), 50);
        x.days(1);
        Check.due("dark", x.dark(), 5);
        Check.due("when s", x.when(0), -1);
        x.put(0, 3, 0);
        Check.due("open", x.thing(0, 1), 1);
        later(x, 0, 6, 1, 7, 1, 8, 5);
        Check.due("when u", x.when(2), 6);
        x.days(2);
        Check.due("dark", x.dark(), 4);
        for (int i = 0; i < 7; i++) {
            x.days(60);
        }
        Check.due("dark", x.dark(), 0);
        Check.due("all days are over", x.when(1), -1);
        later(x, 2, 399, -1, 400, 3, 401, -1);
        lastDays();
        Check.finish();
    }

    private static void later(EndingMarket x, int t, int... dayAndOpen) {
        for (int i = 0; i < dayAndOpen.length; i += 2) {
            Check.due("later " + t + " " + dayAndOpen[i], x.later(t, dayAndOpen[i]), dayAndOpen[i + 1]);
        }
    }

    private static void lastDays() {
        EndingMarket x = Check.of("kind k;man m 9;thing s m k 5;thing t m k 5;ending a m 1 k 5;ending b m 1 k 5;"
                + "false a 1;false b 2;");
        for (int i = 0; i < 6; i++) {
            x.days(60);
        }
        x.days(39);
        x.put(0, 0, 0);
        x.put(0, 1, 1);
        Check.due("when", x.when(0), 399);
        later(x, 0, 399, 0, 400, 5);
        later(x, 1, 399, 0, 400, 0);
        x.days(1);
        Check.due("open", x.open(0, 0) * 10 + x.open(1, 0), 50);
        Check.due("dark", x.dark(), 2);
        Check.due("when", x.when(1), -1);
    }
}
