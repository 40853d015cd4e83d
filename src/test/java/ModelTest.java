import java.util.NoSuchElementException;
import java.util.Random;

/** All promises: long runs of drawn calls, each answer beside that of the plain model. */
public final class ModelTest {
    private static final String[] WORDS = {"kind", "man", "thing", "ending", "false", "dusk", "buys", "puts", "day",
        "or", "and", "not", "ended", "of", "has", "fits", "open", "pages", "number"};
    private static final String[] NAMES = {"a", "b", "c", "d", "e", "f", "g", "h", "i", "j", "seven"};
    private static final String[] SIGNS = {";", "<", "=", ">", "(", ")", ".", "K", "12345678", "1000", "abcdefgh",
        "k1", "1k", "007", "0", "999"};

    private final Random random;
    private final EndingMarket x = new EndingMarket();
    private final Model y = new Model();
    private final int run;
    private int calls = 0;
    private int men = 1;
    private int things = 1;
    private int endings = 1;
    private int kinds = 1;

    private ModelTest(int run) {
        this.run = run;
        random = new Random(run);
    }

    public static void main(String[] args) {
        int runs = args.length > 0 ? Integer.parseInt(args[0]) : 1200;
        for (int run = 0; run < runs; run++) {
            new ModelTest(run).go();
        }
        Check.finish();
    }

    private void due(String call, long got, long want) {
        calls++;
        Check.due("run " + run + " call " + calls + ": " + call, got, want);
    }

    private int up(int n) {
        return random.nextInt(n);
    }

    private boolean chance(int percent) {
        return up(100) < percent;
    }

    /** A number of one of so many, now and then of none. */
    private int one(int many) {
        return chance(4) ? up(14) - 2 : up(Math.max(1, many));
    }

    private void go() {
        readMarket(marketText());
        // An object is used for 512 calls at most, and one text takes up to 50 of them.
        while (calls < 450) {
            call();
        }
    }

    private void tapeIs(String bytes) {
        int[] n = new int[5];
        for (int from = 0; from < bytes.length(); from += 20) {
            for (int i = 0; i < 20; i++) {
                n[i / 4] = n[i / 4] << 8 | (from + i < bytes.length() ? bytes.charAt(from + i) : 0);
            }
            due("feed", x.feed(n[0], n[1], n[2], n[3], n[4]), y.feed(n));
        }
        due("end", x.end(bytes.length()) ? 1 : 0, y.end(bytes.length()) ? 1 : 0);
    }

    private void readMarket(String text) {
        tapeIs(text);
        due("market " + text, x.market(), y.market());
        due("fault of " + text, x.fault(), y.fault());
        countAll();
    }

    private void countAll() {
        kinds = y.count(0);
        men = y.count(1);
        things = y.count(2);
        endings = y.count(3);
    }

    private String amounts(int highest, int percent) {
        StringBuilder s = new StringBuilder();
        int turn = up(Math.max(1, kinds));
        for (int i = 0; i < kinds; i++) {
            if (chance(percent)) {
                s.append(' ').append((char) ('a' + (i + turn) % kinds)).append("k ").append(1 + up(highest));
            }
        }
        return s.toString();
    }

    private String marketText() {
        kinds = chance(50) ? 1 + up(2) : up(7);
        men = 1 + (chance(30) ? 0 : up(6));
        things = up(9);
        endings = chance(20) ? 8 + up(3) : up(8);
        boolean few = chance(60);
        int percent = kinds < 3 ? 60 + up(41) : 20 + up(60);
        int highest = 2 + up(8);
        StringBuilder s = new StringBuilder();
        for (int k = 0; k < kinds; k++) {
            s.append("kind ").append((char) ('a' + k)).append("k;");
        }
        for (int m = 0; m < men; m++) {
            s.append("man ").append((char) ('a' + m)).append("m ").append(few ? up(60) : up(1000)).append(';');
        }
        if (chance(80)) {
            s.append("dusk ").append(up(10)).append(';');
        }
        for (int t = 0; t < things; t++) {
            s.append("thing ").append((char) ('a' + t)).append("t ").append((char) ('a' + up(men))).append('m')
                    .append(amounts(highest, percent)).append(';');
        }
        int price = few ? 5 : 100;
        for (int e = 0; e < endings; e++) {
            s.append("ending ").append((char) ('a' + e)).append("e ").append((char) ('a' + up(men))).append("m ")
                    .append(up(price)).append(amounts(9, percent - 10)).append(';');
        }
        for (int e = 0; e < endings; e++) {
            if (chance(40)) {
                s.append("false ").append((char) ('a' + e)).append("e ").append(1 + up(chance(70) ? 5 : 60))
                        .append(';');
            }
        }
        return s.toString();
    }

    private String someToken() {
        int what = up(10);
        if (what < 3) {
            return WORDS[up(WORDS.length)];
        }
        if (what < 5) {
            return NAMES[up(NAMES.length)];
        }
        if (what < 7) {
            return "" + (char) ('a' + up(11)) + "kmte".charAt(up(4));
        }
        return what < 8 ? "" + up(70) : SIGNS[up(SIGNS.length)];
    }

    /** A text with a token or a byte changed, left out or put in. */
    private String spoilt(String text) {
        if (text.isEmpty()) {
            return someToken();
        }
        int at = up(text.length());
        if (chance(30)) {
            for (int i = 0; i < text.length(); i++) {
                int j = (at + i) % text.length();
                if (Character.isDigit(text.charAt(j))) {
                    return text.substring(0, j) + (chance(50) ? "0" : chance(50) ? "1" : "") + text.substring(j + 1);
                }
            }
        }
        int to = Math.min(text.length(), at + up(4));
        String filling = chance(30) ? "" : chance(20) ? "" + (char) up(256) : someToken();
        String blank = chance(50) ? " " : chance(50) ? "\n" : "";
        String s = text.substring(0, at) + blank + filling + blank + text.substring(to);
        return s.length() > 940 ? s.substring(0, 940) : s;
    }

    private String lengthened(String text, int most) {
        StringBuilder s = new StringBuilder(text);
        int size = most - 8 + up(16);
        int at = 0;
        while (s.length() < size) {
            at = up(s.length() + 1);
            if (at == 0 || at == s.length() || s.charAt(at - 1) == ' ' || s.charAt(at) == ' '
                    || s.charAt(at) == ';') {
                s.insert(at, chance(80) ? ' ' : '\n');
            }
        }
        return s.length() > 940 ? s.substring(0, 940) : s.toString();
    }

    private String manyLines() {
        StringBuilder s = new StringBuilder();
        for (int i = 0; i < 30; i++) {
            int what = up(4);
            char c = (char) ('a' + up(14));
            s.append(what == 0 ? "kind " + c + "k;" : what == 1 ? "man " + c + "m 5;" : what == 2 ? "thing " + c
                    + "t " + (char) ('a' + up(3)) + "m;" : "ending " + c + "e am 3;");
        }
        return s.toString();
    }

    private String name(char sort, int many) {
        return "" + (char) ('a' + one(Math.max(1, many))) + sort;
    }

    private String ledgerText() {
        StringBuilder s = new StringBuilder();
        int lines = chance(10) ? 38 + up(5) : up(8);
        for (int i = 0; i < lines; i++) {
            int what = lines > 20 ? 2 : up(4);
            if (what == 0) {
                s.append(name('m', men)).append(" buys ").append(name('e', endings));
            } else if (what == 1) {
                s.append(name('m', men)).append(" puts ").append(name('e', endings)).append(' ')
                        .append(name('t', things));
            } else {
                s.append("day ").append(1 + up(lines > 20 ? 9 : 60));
            }
            s.append(";");
        }
        return s.toString();
    }

    private String sentenceText(int depth) {
        int what = up(depth > 7 ? 6 : 11);
        switch (what) {
            case 0:
                return "ended";
            case 1:
                return "of " + name('m', men);
            case 2:
                return "has " + name('k', kinds);
            case 3:
                return "fits " + name('e', endings);
            case 4:
            case 5:
                return new String[] {"open", "pages", "number"}[up(3)] + "<=>".charAt(up(3)) + up(what == 4 ? 4 : 12);
            case 6:
            case 7:
                return "not " + sentenceText(depth + 1);
            case 8:
                return "(" + sentenceText(depth + 1) + ")";
            case 9:
                return sentenceText(depth + 1) + " or " + sentenceText(depth + 1);
            default:
                return sentenceText(depth + 1) + " and " + sentenceText(depth + 1);
        }
    }

    private String ofMost(String text, int most) {
        String s = chance(15) ? spoilt(text) : text;
        s = chance(5) ? lengthened(s, most) : s;
        return s.length() > 940 ? s.substring(0, 940) : s;
    }

    private String lastPage() {
        StringBuilder s = new StringBuilder();
        for (int k = 0; k < kinds; k++) {
            s.append((char) (chance(60) ? 0 : up(10)));
        }
        int thing = one(things);
        if (chance(60) && thing >= 0 && thing < y.count(2)) {
            return livedPage(thing);
        }
        while (chance(50)) {
            s.append((char) up(Math.max(1, endings)));
        }
        return chance(5) ? s.substring(0, up(s.length() + 1)) : s.toString();
    }

    /** A page to which a thing may have come: some endings put in some order, the numbers in another. */
    private String livedPage(int t) {
        StringBuilder put = new StringBuilder();
        int[] open = new int[6];
        for (int k = 0; k < y.count(0); k++) {
            open[k] = y.open(t, k);
        }
        for (int e = 0; e < y.count(3); e++) {
            boolean fits = chance(70);
            for (int k = 0; k < y.count(0); k++) {
                fits &= y.closes(e, k) == 0 || open[k] > 0;
            }
            if (fits) {
                put.insert(up(put.length() + 1), (char) e);
                for (int k = 0; k < y.count(0); k++) {
                    open[k] = Math.max(0, open[k] - y.closes(e, k));
                }
            }
        }
        StringBuilder s = new StringBuilder();
        for (int k = 0; k < y.count(0); k++) {
            s.append((char) open[k]);
        }
        return s.append(put).toString();
    }

    private void call() {
        int what = up(100);
        if (what < 36) {
            deed();
        } else if (what < 46) {
            text();
        } else if (what < 75) {
            search();
        } else {
            look();
        }
    }

    private void deed() {
        int m = one(men);
        int t = one(things);
        int e = one(endings);
        if (chance(50) && t >= 0 && t < things) {
            m = y.thing(t, 0);
            int fitting = y.thing(t, 4);
            for (int i = 0; i < 20 && fitting != 0 && (e < 0 || (fitting >> e & 1) == 0); i++) {
                e = up(endings);
            }
        }
        switch (up(12)) {
            case 0:
            case 1:
            case 2:
                due("buy " + m + " " + e, x.buy(m, e), y.buy(m, e));
                break;
            case 3:
            case 4:
            case 5:
                due("put " + m + " " + e + " " + t, x.put(m, e, t), y.put(m, e, t));
                break;
            case 6:
            case 7:
                int n = chance(60) ? up(4) : up(63) - 1;
                due("days " + n, x.days(n), y.days(n));
                break;
            case 8:
                due("trade", x.trade(), y.trade());
                break;
            case 9:
                int days = chance(70) ? up(4) : up(63) - 1;
                int seed = random.nextInt();
                due("drawn " + days + " " + seed, x.drawn(days, seed), y.drawn(days, seed));
                break;
            case 10:
                due("undo", x.undo(), y.undo());
                break;
            default:
                int k = chance(90) ? up(2) : up(5) - 2;
                if (chance(60)) {
                    due("image " + k, x.image(k) ? 1 : 0, y.image(k) ? 1 : 0);
                } else {
                    due("restore " + k, x.restore(k) ? 1 : 0, y.restore(k) ? 1 : 0);
                    countAll();
                }
        }
    }

    private void text() {
        int what = up(24);
        if (what < 1) {
            readMarket(ofMost(chance(10) ? manyLines() : marketText(), 900));
        } else if (what < 7) {
            readMarket(spoilt(chance(30) ? manyLines() : marketText()));
        } else if (what < 10) {
            String s = ofMost(ledgerText(), 400);
            int lives = chance(5) ? up(5) - 2 : up(2);
            tapeIs(s);
            due("ledger " + lives + ": " + s, x.ledger(lives), y.ledger(lives));
            due("fault", x.fault(), y.fault());
            due("end", x.end(0) ? 1 : 0, y.end(0) ? 1 : 0);
        } else if (what < 16) {
            String s = ofMost(sentenceText(chance(20) ? 0 : 5), 200);
            tapeIs(s);
            due("sentence " + s, x.sentence(), y.sentence());
            due("fault", x.fault(), y.fault());
            due("said -1 " + s, x.said(-1), y.said(-1));
        } else {
            tapeIs(lastPage());
            due("was", x.was(), y.was());
            due("ask", x.ask(), y.ask());
        }
    }

    private void search() {
        int m = one(men);
        int e = one(endings);
        int t = one(things);
        int set = chance(3) ? random.nextInt() : up(1 << Math.min(9, Math.max(1, things)));
        switch (up(11)) {
            case 0:
                due("fits " + e + " " + t, x.fits(e, t), y.fits(e, t));
                break;
            case 1:
            case 2:
                due("ends " + t, x.ends(t), y.ends(t));
                break;
            case 3:
                due("street " + set, x.street(set), y.street(set));
                due("street " + (set & -set), x.street(set & -set), y.street(set & -set));
                break;
            case 4:
                due("covers " + set, x.covers(set), y.covers(set));
                break;
            case 5:
                due("haggle " + m + " " + e, x.haggle(m, e), y.haggle(m, e));
                break;
            case 6:
                due("gets " + m, x.gets(m), y.gets(m));
                break;
            case 7:
                due("when " + t, x.when(t), y.when(t));
                break;
            case 8:
                int d = chance(90) ? Math.min(400, x.now(0) + up(70)) : up(410) - 3;
                due("later " + t + " " + d, x.later(t, d), y.later(t, d));
                break;
            case 9:
                due("cheapest " + t, x.cheapest(t), y.cheapest(t));
                break;
            default:
                int n = chance(80) ? 1 + up(3) : up(33) - 1;
                int seed = random.nextInt();
                due("odds " + t + " " + n + " " + seed, x.odds(t, n, seed), y.odds(t, n, seed));
        }
    }

    private void look() {
        int k = one(kinds);
        int t = one(things);
        int e = one(endings);
        int m = one(men);
        int what = up(8) - (chance(5) ? 1 : 0);
        due("row " + k, x.row(k), y.row(k));
        due("has " + t, x.has(t), y.has(t));
        due("tray", x.tray(), y.tray());
        due("ask", x.ask(), y.ask());
        due("rounds", x.rounds(), y.rounds());
        due("told " + what, x.told(what), y.told(what));
        due("fault", x.fault(), y.fault());
        due("dark", x.dark(), y.dark());
        due("said " + k, x.said(k - 1), y.said(k - 1));
        due("open " + t + " " + k, x.open(t, k), y.open(t, k));
        due("closes " + e + " " + k, x.closes(e, k), y.closes(e, k));
        due("likes " + m + " " + e, x.likes(m, e), y.likes(m, e));
        due("man " + m + " " + what, x.man(m, what), y.man(m, what));
        due("now " + what, x.now(what), y.now(what));
        due("count " + what, x.count(what), y.count(what));
        due("thing " + t + " " + what, thing(t, what, true), thing(t, what, false));
        due("ending " + e + " " + what, ending(e, what, true), ending(e, what, false));
    }

    private int thing(int t, int what, boolean first) {
        try {
            return first ? x.thing(t, what) : y.thing(t, what);
        } catch (NoSuchElementException none) {
            return -77;
        }
    }

    private int ending(int e, int what, boolean first) {
        try {
            return first ? x.ending(e, what) : y.ending(e, what);
        } catch (NoSuchElementException none) {
            return -77;
        }
    }
}
