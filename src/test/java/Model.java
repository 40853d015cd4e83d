import java.util.ArrayDeque;
import java.util.ArrayList;
import java.util.Arrays;
import java.util.HashMap;
import java.util.LinkedHashMap;
import java.util.List;
import java.util.Map;
import java.util.NoSuchElementException;
import java.util.Set;
import java.util.TreeMap;
import java.util.TreeSet;

/** The document over again, as slow and as plain as can be: every search tries all there is. */
final class Model {
    static final int NONE = -1;
    private static final Set<String> WORDS = new TreeSet<>(Arrays.asList("kind", "man", "thing", "ending", "false",
            "dusk", "buys", "puts", "day", "or", "and", "not", "ended", "of", "has", "fits", "open", "pages",
            "number"));

    private static final class Fault extends RuntimeException {
        private static final long serialVersionUID = 1L;
        final int place;
        final int kind;

        Fault(int place, int kind) {
            this.place = place;
            this.kind = kind;
        }
    }

    private static final class Token {
        final int place;
        final String text; // "" at the end

        Token(int place, String text) {
            this.place = place;
            this.text = text;
        }

        boolean isNumber() {
            return text.matches("[0-9]{1,3}");
        }

        boolean isName() {
            return text.matches("[a-z]{1,7}") && !WORDS.contains(text);
        }
    }

    private static final class Thing {
        final int man;
        final int[] told = new int[6];
        final int[] open = new int[6];

        Thing(int man) {
            this.man = man;
        }

        Thing copy() {
            Thing c = new Thing(man);
            System.arraycopy(told, 0, c.told, 0, 6);
            System.arraycopy(open, 0, c.open, 0, 6);
            return c;
        }

        int all() {
            return Arrays.stream(open).sum();
        }
    }

    private static final class Ending {
        int man;
        int price;
        int falseDays = 0;
        final int[] closes = new int[6];
        int place = NONE;
        int day = NONE;
        int dark = 0;
        int sold = 0;
        int[] closed = new int[6];

        Ending copy() {
            Ending c = new Ending();
            c.man = man;
            c.price = price;
            c.falseDays = falseDays;
            System.arraycopy(closes, 0, c.closes, 0, 6);
            c.place = place;
            c.day = day;
            c.dark = dark;
            c.sold = sold;
            c.closed = closed.clone();
            return c;
        }
    }

    /** Market and all that is so. */
    private static final class World {
        final Map<String, String> names = new LinkedHashMap<>(); // name to sort and number
        int kinds = 0;
        int dusk = 1;
        int day = 0;
        final List<int[]> men = new ArrayList<>(); // coin, bought, put
        final List<Thing> things = new ArrayList<>();
        final List<Ending> endings = new ArrayList<>();

        World copy() {
            World c = new World();
            c.names.putAll(names);
            c.kinds = kinds;
            c.dusk = dusk;
            c.day = day;
            for (int[] m : men) {
                c.men.add(m.clone());
            }
            for (Thing t : things) {
                c.things.add(t.copy());
            }
            for (Ending e : endings) {
                c.endings.add(e.copy());
            }
            return c;
        }

        static boolean fits(int[] closes, int[] open) {
            int some = 0;
            for (int k = 0; k < 6; k++) {
                if (closes[k] > 0 && open[k] == 0) {
                    return false;
                }
                some += closes[k];
            }
            return some > 0;
        }

        boolean fits(int e, int t) {
            return fits(endings.get(e).closes, things.get(t).open);
        }

        int buy(int m, int e) {
            Ending x = endings.get(e);
            if (x.place != NONE) {
                return 1;
            }
            if (x.man == m) {
                return 2;
            }
            if (men.get(m)[0] < x.price) {
                return 3;
            }
            men.get(m)[0] -= x.price;
            men.get(x.man)[0] += x.price;
            men.get(m)[1]++;
            x.man = m;
            x.sold++;
            return 0;
        }

        int put(int m, int e, int t) {
            Ending x = endings.get(e);
            Thing y = things.get(t);
            if (x.place != NONE) {
                return 1;
            }
            if (x.man != m || y.man != m) {
                return 2;
            }
            if (!fits(e, t)) {
                return 3;
            }
            for (int k = 0; k < 6; k++) {
                int before = y.open[k];
                y.open[k] = Math.max(0, before - x.closes[k]);
                x.closed[k] = before - y.open[k];
            }
            x.place = t;
            x.day = day;
            x.man = NONE;
            men.get(m)[2]++;
            return 0;
        }

        void dayGoes() {
            for (Ending x : endings) {
                if (x.falseDays > 0 && x.place != NONE && x.dark == 0 && day == x.day + x.falseDays - 1) {
                    for (int k = 0; k < 6; k++) {
                        int[] open = things.get(x.place).open;
                        open[k] = Math.min(99, open[k] + x.closed[k]);
                    }
                    x.dark = 1;
                }
            }
            for (Ending x : endings) {
                if (x.place == NONE && x.sold == 0) {
                    x.price = Math.max(0, x.price - dusk);
                }
            }
            day++;
        }

        int days(int n) {
            int gone = 0;
            while (gone < n && day < 400) {
                dayGoes();
                gone++;
            }
            return gone;
        }

        int drawn(int n, int seed) {
            int[] x = {seed};
            int gone = 0;
            while (gone < n && day < 400) {
                for (int m = 0; m < men.size(); m++) {
                    int what = draw(x, 3);
                    if (what == 0) {
                        buy(m, draw(x, endings.size()));
                    } else if (what == 1) {
                        int e = draw(x, endings.size());
                        put(m, e, draw(x, things.size()));
                    }
                }
                dayGoes();
                gone++;
            }
            return gone;
        }

        private static int draw(int[] x, int n) {
            x[0] = (int) ((long) x[0] * 1103515245L + 12345L);
            return (int) (((x[0] & 0xffffffffL) / 256) % n);
        }

        int ended() {
            int set = 0;
            for (int t = 0; t < things.size(); t++) {
                set |= things.get(t).all() == 0 ? 1 << t : 0;
            }
            return set;
        }
    }

    /** A sentence is kept as its tokens and read anew for each thing. */
    private World world = new World();
    private List<Token> sentence = null;
    private StringBuilder tape = new StringBuilder();
    private final ArrayDeque<World> past = new ArrayDeque<>();
    private final World[] imageWorld = new World[2];
    private final List<List<Token>> imageSentence = new ArrayList<>(Arrays.asList(null, null));
    private int fault = 0;
    private List<Integer> row = new ArrayList<>();
    private Map<Integer, Integer> has = new HashMap<>();
    private int tray = NONE;
    private int ask = NONE;
    private int rounds = NONE;
    private int[] told = null;

    private List<Token> tokens = new ArrayList<>();
    private int at = 0;

    private void keep(World before) {
        past.push(before);
        while (past.size() > 8) {
            past.removeLast();
        }
    }

    // Texts

    private void tokenize(int most) {
        String text = tape.toString();
        tape = new StringBuilder();
        tokens = new ArrayList<>();
        at = 0;
        int i = 0;
        while (true) {
            while (i < text.length() && (text.charAt(i) == ' ' || text.charAt(i) == '\n')) {
                i++;
            }
            if (text.length() > most && i >= most) {
                tokens.add(new Token(most, "too long"));
                return;
            }
            if (i == text.length()) {
                tokens.add(new Token(i, ""));
                return;
            }
            int from = i;
            while (i < text.length() && String.valueOf(text.charAt(i)).matches("[a-z0-9]")) {
                i++;
            }
            if (i == from) {
                i++;
            }
            tokens.add(new Token(from, text.substring(from, i)));
        }
    }

    private Token peek() {
        return tokens.get(at);
    }

    private boolean sees(String text) {
        return peek().text.equals(text);
    }

    private void expect(String text) {
        if (!sees(text)) {
            throw new Fault(peek().place, 1);
        }
        at++;
    }

    private int number(int low, int high) {
        Token token = peek();
        if (!token.isNumber()) {
            throw new Fault(token.place, 1);
        }
        int value = Integer.parseInt(token.text);
        if (value < low || value > high) {
            throw new Fault(token.place, 2);
        }
        at++;
        return value;
    }

    private int named(World w, String sort) {
        Token token = peek();
        if (!token.isName()) {
            throw new Fault(token.place, 1);
        }
        String known = w.names.get(token.text);
        if (known == null || !known.startsWith(sort + " ")) {
            throw new Fault(token.place, 3);
        }
        at++;
        return Integer.parseInt(known.substring(sort.length() + 1));
    }

    private void newName(World w, String sort, int number) {
        Token token = peek();
        if (!token.isName()) {
            throw new Fault(token.place, 1);
        }
        if (w.names.containsKey(token.text)) {
            throw new Fault(token.place, 3);
        }
        w.names.put(token.text, sort + " " + number);
        at++;
    }

    private void amounts(World w, int[] into) {
        Set<Integer> seen = new TreeSet<>();
        while (!sees(";")) {
            int place = peek().place;
            int k = named(w, "kind");
            if (!seen.add(k)) {
                throw new Fault(place, 3);
            }
            into[k] = number(1, 9);
        }
    }

    private int marketLines(World w) {
        int lines = 0;
        boolean dusk = false;
        Map<String, Integer> most = new TreeMap<>(Map.of("kind", 6, "man", 6, "thing", 8, "ending", 10));
        while (!sees("")) {
            Token first = peek();
            String sort = first.text;
            if (most.containsKey(sort)) {
                int size = sort.equals("kind") ? w.kinds : sort.equals("man") ? w.men.size()
                        : sort.equals("thing") ? w.things.size() : w.endings.size();
                if (size == most.get(sort)) {
                    throw new Fault(first.place, 4);
                }
                at++;
                newName(w, sort, size);
                if (sort.equals("kind")) {
                    w.kinds++;
                } else if (sort.equals("man")) {
                    w.men.add(new int[] {number(0, 999), 0, 0});
                } else if (sort.equals("thing")) {
                    Thing t = new Thing(named(w, "man"));
                    amounts(w, t.told);
                    System.arraycopy(t.told, 0, t.open, 0, 6);
                    w.things.add(t);
                } else {
                    Ending e = new Ending();
                    e.man = named(w, "man");
                    e.price = number(0, 99);
                    amounts(w, e.closes);
                    w.endings.add(e);
                }
            } else if (sort.equals("false")) {
                at++;
                int place = peek().place;
                Ending e = w.endings.get(named(w, "ending"));
                if (e.falseDays > 0) {
                    throw new Fault(place, 3);
                }
                e.falseDays = number(1, 60);
            } else if (sort.equals("dusk")) {
                if (dusk) {
                    throw new Fault(first.place, 3);
                }
                dusk = true;
                at++;
                w.dusk = number(0, 9);
            } else {
                throw new Fault(first.place, 1);
            }
            expect(";");
            lines++;
        }
        return lines;
    }

    int market() {
        tokenize(900);
        World w = new World();
        try {
            int lines = marketLines(w);
            world = w;
            sentence = null;
            past.clear();
            fault = 0;
            return lines;
        } catch (Fault f) {
            fault = f.kind;
            return -1 - f.place;
        }
    }

    private List<int[]> ledgerLines() {
        List<int[]> lines = new ArrayList<>();
        while (!sees("")) {
            int place = peek().place;
            boolean day = sees("day");
            int m = NONE;
            if (day) {
                at++;
            } else {
                m = named(world, "man");
            }
            if (lines.size() == 40) {
                throw new Fault(place, 4);
            }
            if (day) {
                lines.add(new int[] {2, number(1, 60)});
            } else if (sees("buys")) {
                at++;
                lines.add(new int[] {0, m, named(world, "ending")});
            } else {
                expect("puts");
                int e = named(world, "ending");
                lines.add(new int[] {1, m, e, named(world, "thing")});
            }
            expect(";");
        }
        return lines;
    }

    int ledger(int lives) {
        if (lives != 0 && lives != 1) {
            return -1000;
        }
        tokenize(400);
        List<int[]> lines;
        try {
            lines = ledgerLines();
        } catch (Fault f) {
            fault = f.kind;
            return -2 - f.place;
        }
        fault = 0;
        World w = world.copy();
        int why = 0;
        int i = 0;
        for (; i < lines.size(); i++) {
            int[] line = lines.get(i);
            if (line[0] == 0) {
                why = w.buy(line[1], line[2]);
            } else if (line[0] == 1) {
                why = w.put(line[1], line[2], line[3]);
                why += why == 0 ? 0 : 10;
            } else if (w.day + line[1] > 400) {
                why = 21;
            } else {
                w.days(line[1]);
            }
            if (why != 0) {
                break;
            }
        }
        told = new int[] {why, i, w.day, w.ended()};
        if (lives == 1 && i > 0) {
            keep(world);
            world = w;
        }
        return why == 0 ? NONE : i;
    }

    int told(int what) {
        return told == null || what < 0 || what > 3 ? NONE : told[what];
    }

    private int ones;

    // Reads a condition, and says it of thing t as it goes (t NONE: it is read alone).
    private boolean cond(int t, int within) {
        boolean any = all(t, within);
        while (sees("or")) {
            at++;
            any |= all(t, within);
        }
        return any;
    }

    private boolean all(int t, int within) {
        boolean every = one(t, within);
        while (sees("and")) {
            at++;
            every &= one(t, within);
        }
        return every;
    }

    private boolean one(int t, int within) {
        Token first = peek();
        if (!List.of("not", "(", "ended", "of", "has", "fits", "open", "pages", "number").contains(first.text)) {
            throw new Fault(first.place, 1);
        }
        if (ones == 20 || within == 9) {
            throw new Fault(first.place, 4);
        }
        ones++;
        at++;
        Thing thing = t == NONE ? new Thing(0) : world.things.get(t);
        switch (first.text) {
            case "not":
                return !one(t, within + 1);
            case "(":
                boolean in = cond(t, within + 1);
                expect(")");
                return in;
            case "ended":
                return thing.all() == 0;
            case "of":
                return named(world, "man") == thing.man;
            case "has":
                return thing.open[named(world, "kind")] > 0;
            case "fits":
                int e = named(world, "ending");
                return t != NONE && world.endings.get(e).place == NONE && world.fits(e, t);
            default:
                int value = first.text.equals("open") ? thing.all() : first.text.equals("number") ? t : pages(t);
                Token sign = peek();
                if (!List.of("<", "=", ">").contains(sign.text)) {
                    throw new Fault(sign.place, 1);
                }
                at++;
                int than = number(0, 999);
                return sign.text.equals("<") ? value < than : sign.text.equals("=") ? value == than : value > than;
        }
    }

    private int pages(int t) {
        return (int) world.endings.stream().filter(e -> e.place == t).count();
    }

    int sentence() {
        tokenize(200);
        ones = 0;
        try {
            cond(NONE, 1);
            expect("");
        } catch (Fault f) {
            fault = f.kind;
            return -1 - f.place;
        }
        fault = 0;
        sentence = tokens;
        return ones;
    }

    int said(int k) {
        if (sentence == null) {
            return NONE;
        }
        List<Integer> those = new ArrayList<>();
        for (int t = 0; t < world.things.size(); t++) {
            tokens = sentence;
            at = 0;
            ones = 0;
            if (cond(t, 1)) {
                those.add(t);
            }
        }
        return k == NONE ? those.size() : k < 0 || k >= those.size() ? NONE : those.get(k);
    }

    // The tape, and what is so

    int feed(int... numbers) {
        if (tape.length() + 20 > 940) {
            return NONE;
        }
        for (int number : numbers) {
            for (int shift = 24; shift >= 0; shift -= 8) {
                tape.append((char) (number >> shift & 255));
            }
        }
        return tape.length();
    }

    boolean end(int n) {
        if (n < 0 || n > tape.length()) {
            return false;
        }
        tape.setLength(n);
        return true;
    }

    int fault() {
        return fault;
    }

    private boolean man(int m) {
        return m >= 0 && m < world.men.size();
    }

    private boolean isThing(int t) {
        return t >= 0 && t < world.things.size();
    }

    private boolean isEnding(int e) {
        return e >= 0 && e < world.endings.size();
    }

    private boolean isKind(int k) {
        return k >= 0 && k < world.kinds;
    }

    int thing(int t, int what) {
        if (!isThing(t) || what < 0 || what > 5) {
            throw new NoSuchElementException();
        }
        Thing x = world.things.get(t);
        int kinds = 0;
        for (int k = 0; k < 6; k++) {
            kinds |= x.open[k] > 0 ? 1 << k : 0;
        }
        int fitting = 0;
        for (int e = 0; e < world.endings.size(); e++) {
            fitting |= fits(e, t) == 1 ? 1 << e : 0;
        }
        int dark = (int) world.endings.stream().filter(e -> e.place == t && e.dark == 1).count();
        return new int[] {x.man, x.all(), pages(t), kinds, fitting, dark}[what];
    }

    int open(int t, int k) {
        return isThing(t) && isKind(k) ? world.things.get(t).open[k] : NONE;
    }

    int ending(int e, int what) {
        if (!isEnding(e) || what < 0 || what > 6) {
            throw new NoSuchElementException();
        }
        Ending x = world.endings.get(e);
        return new int[] {x.man, x.price, x.place, x.day, x.dark, x.sold, Arrays.stream(x.closes).sum()}[what];
    }

    int closes(int e, int k) {
        return isEnding(e) && isKind(k) ? world.endings.get(e).closes[k] : NONE;
    }

    int man(int m, int what) {
        if (!man(m) || what < 0 || what > 4) {
            return NONE;
        }
        int things = 0;
        for (int t = 0; t < world.things.size(); t++) {
            things |= world.things.get(t).man == m ? 1 << t : 0;
        }
        int endings = 0;
        for (int e = 0; e < world.endings.size(); e++) {
            endings |= world.endings.get(e).place == NONE && world.endings.get(e).man == m ? 1 << e : 0;
        }
        int[] x = world.men.get(m);
        return new int[] {x[0], things, endings, x[1], x[2]}[what];
    }

    int now(int what) {
        int put = 0;
        int dark = 0;
        for (int e = 0; e < world.endings.size(); e++) {
            put |= world.endings.get(e).place != NONE ? 1 << e : 0;
            dark += world.endings.get(e).dark;
        }
        int coin = world.men.stream().mapToInt(m -> m[0]).sum();
        int open = world.things.stream().mapToInt(Thing::all).sum();
        return what < 0 || what > 5 ? NONE : new int[] {world.day, world.ended(), put, coin, open, dark}[what];
    }

    // Deeds

    int buy(int m, int e) {
        if (!man(m) || !isEnding(e)) {
            return NONE;
        }
        World before = world.copy();
        int why = world.buy(m, e);
        if (why == 0) {
            keep(before);
        }
        return why;
    }

    int put(int m, int e, int t) {
        if (!man(m) || !isEnding(e) || !isThing(t)) {
            return NONE;
        }
        World before = world.copy();
        int why = world.put(m, e, t);
        if (why == 0) {
            keep(before);
        }
        return why;
    }

    int days(int n) {
        if (n < 1 || n > 60) {
            return NONE;
        }
        World before = world.copy();
        int gone = world.days(n);
        if (gone > 0) {
            keep(before);
        }
        return gone;
    }

    int drawn(int n, int seed) {
        if (n < 1 || n > 60 || world.endings.isEmpty() || world.things.isEmpty()) {
            return NONE;
        }
        World before = world.copy();
        int gone = world.drawn(n, seed);
        if (gone > 0) {
            keep(before);
        }
        return gone;
    }

    int odds(int t, int n, int seed) {
        if (!isThing(t) || n < 1 || n > 30 || world.endings.isEmpty()) {
            return NONE;
        }
        int many = 0;
        for (int i = 0; i < n; i++) {
            World w = world.copy();
            w.drawn(20, seed + i);
            many += w.things.get(t).all() == 0 ? 1 : 0;
        }
        return many;
    }

    int undo() {
        if (past.isEmpty()) {
            return NONE;
        }
        world = past.pop();
        return past.size();
    }

    boolean image(int k) {
        if (k != 0 && k != 1) {
            return false;
        }
        imageWorld[k] = world.copy();
        imageSentence.set(k, sentence);
        return true;
    }

    boolean restore(int k) {
        if (k != 0 && k != 1 || imageWorld[k] == null) {
            return false;
        }
        world = imageWorld[k].copy();
        sentence = imageSentence.get(k);
        past.clear();
        return true;
    }

    int count(int what) {
        return what < 0 || what > 5 ? NONE : new int[] {world.kinds, world.men.size(), world.things.size(),
            world.endings.size(), world.dusk, tape.length()}[what];
    }

    // Searches

    int fits(int e, int t) {
        if (!isEnding(e) || !isThing(t) || world.endings.get(e).place != NONE) {
            return NONE;
        }
        return world.fits(e, t) ? 1 : 0;
    }

    private int[] bestKey;
    private List<Integer> bestRow;

    private static int compare(int[] a, int[] b) {
        return Arrays.compare(a, b);
    }

    private void tryRows(int[] open, List<Integer> so, int bits, int coin) {
        if (Arrays.stream(open).sum() == 0) {
            int[] key = {coin, so.size(), bits};
            // Rows come by their numbers, so the first of its set is kept.
            if (bestKey == null || compare(key, bestKey) < 0) {
                bestKey = key;
                bestRow = new ArrayList<>(so);
            }
            return;
        }
        for (int e = 0; e < world.endings.size(); e++) {
            Ending x = world.endings.get(e);
            if ((bits >> e & 1) == 0 && x.place == NONE && World.fits(x.closes, open)) {
                so.add(e);
                tryRows(less(open, x.closes), so, bits | 1 << e, coin + x.price);
                so.remove(so.size() - 1);
            }
        }
    }

    private static int[] less(int[] open, int[] closes) {
        int[] then = new int[6];
        for (int k = 0; k < 6; k++) {
            then[k] = Math.max(0, open[k] - closes[k]);
        }
        return then;
    }

    int ends(int t) {
        if (!isThing(t)) {
            return NONE;
        }
        bestKey = null;
        tryRows(world.things.get(t).open, new ArrayList<>(), 0, 0);
        if (bestKey == null) {
            return NONE;
        }
        row = bestRow;
        return bestKey[0];
    }

    int row(int k) {
        return k < 0 || k >= row.size() ? NONE : row.get(k);
    }

    private int bestCoin;
    private Map<Integer, Integer> bestHas;

    private void tryStreet(int set, int t, Map<Integer, Integer> so, int coin) {
        if (t == world.things.size()) {
            if (bestHas == null || coin < bestCoin) {
                bestCoin = coin;
                bestHas = new HashMap<>(so);
            }
            return;
        }
        Thing x = world.things.get(t);
        if ((set >> t & 1) == 0 || x.all() == 0) {
            tryStreet(set, t + 1, so, coin);
            return;
        }
        for (int e = 0; e < world.endings.size(); e++) {
            Ending y = world.endings.get(e);
            if (!so.containsValue(e) && fits(e, t) == 1 && Arrays.stream(less(x.open, y.closes)).sum() == 0) {
                so.put(t, e);
                tryStreet(set, t + 1, so, coin + y.price);
                so.remove(t);
            }
        }
    }

    int street(int set) {
        if (set < 0 || set >> world.things.size() != 0) {
            return NONE;
        }
        bestHas = null;
        tryStreet(set, 0, new HashMap<>(), 0);
        if (bestHas == null) {
            return NONE;
        }
        has = bestHas;
        return bestCoin;
    }

    int has(int t) {
        return has.getOrDefault(t, NONE);
    }

    int covers(int set) {
        if (set < 0 || set >> world.things.size() != 0) {
            return NONE;
        }
        for (int n = 0; n <= world.endings.size(); n++) {
            for (int some = 0; some < 1 << world.endings.size(); some++) {
                if (Integer.bitCount(some) == n && allFitted(set, some)) {
                    tray = some;
                    return n;
                }
            }
        }
        return NONE;
    }

    private boolean allFitted(int set, int some) {
        for (int t = 0; t < world.things.size(); t++) {
            if ((set >> t & 1) == 1 && world.things.get(t).all() > 0 && (thing(t, 4) & some) == 0) {
                return false;
            }
        }
        return true;
    }

    int tray() {
        return tray;
    }

    private boolean comesSo(int[] open, List<Integer> rest, int[] last) {
        if (rest.isEmpty()) {
            return Arrays.equals(open, last);
        }
        for (int i = 0; i < rest.size(); i++) {
            int[] closes = world.endings.get(rest.get(i)).closes;
            if (World.fits(closes, open)) {
                List<Integer> others = new ArrayList<>(rest);
                others.remove(i);
                if (comesSo(less(open, closes), others, last)) {
                    return true;
                }
            }
        }
        return false;
    }

    int was() {
        String page = tape.toString();
        tape = new StringBuilder();
        if (page.length() < world.kinds) {
            return NONE;
        }
        int[] last = new int[6];
        List<Integer> put = new ArrayList<>();
        for (int i = 0; i < page.length(); i++) {
            int b = page.charAt(i);
            if (i < world.kinds) {
                last[i] = b;
            } else if (!isEnding(b) || put.contains(b)) {
                return NONE;
            } else {
                put.add(b);
            }
        }
        int set = 0;
        for (int t = 0; t < world.things.size(); t++) {
            set |= comesSo(world.things.get(t).told, put, last) ? 1 << t : 0;
        }
        if (set > 0) {
            ask = NONE;
            int most = 0;
            for (int k = 0; k < world.kinds; k++) {
                Set<Integer> unlike = new TreeSet<>();
                for (int t = 0; t < world.things.size(); t++) {
                    if ((set >> t & 1) == 1) {
                        unlike.add(world.things.get(t).told[k]);
                    }
                }
                if (unlike.size() > most) {
                    most = unlike.size();
                    ask = k;
                }
            }
        }
        return set;
    }

    int ask() {
        return ask;
    }

    int haggle(int m, int e) {
        if (!man(m) || !isEnding(e) || world.endings.get(e).place != NONE || world.endings.get(e).man == m) {
            return NONE;
        }
        int bid = 0;
        int asked = world.endings.get(e).price;
        int round = 0;
        while (bid < asked) {
            bid += 2;
            asked--;
            round++;
        }
        if (asked > world.men.get(m)[0]) {
            return NONE;
        }
        rounds = round;
        return asked;
    }

    int rounds() {
        return rounds;
    }

    int likes(int m, int e) {
        if (!man(m) || !isEnding(e) || world.endings.get(e).place != NONE) {
            return NONE;
        }
        int most = 0;
        for (int t = 0; t < world.things.size(); t++) {
            Thing x = world.things.get(t);
            if (x.man == m && world.fits(e, t)) {
                most = Math.max(most, x.all() - Arrays.stream(less(x.open, world.endings.get(e).closes)).sum());
            }
        }
        return most;
    }

    private Map<Integer, Integer> come() {
        Map<Integer, Integer> brought = new TreeMap<>();
        for (int e = 0; e < world.endings.size(); e++) {
            if (world.endings.get(e).place == NONE) {
                brought.putIfAbsent(world.endings.get(e).man, e);
            }
        }
        return brought;
    }

    // One ring after the other: from any man along the pointing till somebody is met again.
    private Map<Integer, Integer> rings() {
        Map<Integer, Integer> left = come();
        Map<Integer, Integer> gets = new TreeMap<>();
        while (!left.isEmpty()) {
            List<Integer> walk = new ArrayList<>();
            int m = left.keySet().iterator().next();
            while (!walk.contains(m)) {
                walk.add(m);
                m = pointsAt(m, left);
            }
            List<Integer> ring = walk.subList(walk.indexOf(m), walk.size());
            for (int one : ring) {
                gets.put(one, left.get(pointsAt(one, left)));
            }
            left.keySet().removeAll(ring);
        }
        return gets;
    }

    private int pointsAt(int m, Map<Integer, Integer> left) {
        int best = NONE;
        int[] bestKey = null;
        for (Map.Entry<Integer, Integer> other : left.entrySet()) {
            int[] key = {-likes(m, other.getValue()), other.getValue()};
            if (bestKey == null || compare(key, bestKey) < 0) {
                bestKey = key;
                best = other.getKey();
            }
        }
        return best;
    }

    int gets(int m) {
        return rings().getOrDefault(m, NONE);
    }

    int trade() {
        Map<Integer, Integer> gets = rings();
        Map<Integer, Integer> brought = come();
        World before = world.copy();
        int changed = 0;
        for (Map.Entry<Integer, Integer> one : gets.entrySet()) {
            changed += one.getValue().equals(brought.get(one.getKey())) ? 0 : 1;
            world.endings.get(one.getValue()).man = one.getKey();
        }
        if (changed > 0) {
            keep(before);
        }
        return changed;
    }

    int when(int t) {
        if (!isThing(t)) {
            return NONE;
        }
        World w = world.copy();
        while (w.day < 400) {
            if (w.things.get(t).all() == 0) {
                return w.day;
            }
            w.dayGoes();
        }
        return NONE;
    }

    int later(int t, int d) {
        if (!isThing(t) || d < world.day || d > 400) {
            return NONE;
        }
        World w = world.copy();
        while (w.day < d) {
            w.dayGoes();
        }
        return w.things.get(t).all();
    }

    int dark() {
        int set = 0;
        for (int e = 0; e < world.endings.size(); e++) {
            Ending x = world.endings.get(e);
            set |= x.falseDays > 0 && x.place != NONE && x.dark == 0 ? 1 << e : 0;
        }
        return set;
    }

    int cheapest(int t) {
        if (!isThing(t)) {
            return NONE;
        }
        int best = NONE;
        for (int e = world.endings.size() - 1; e >= 0; e--) {
            Ending x = world.endings.get(e);
            if (fits(e, t) == 1 && x.man != world.things.get(t).man
                    && (best == NONE || x.price <= world.endings.get(best).price)) {
                best = e;
            }
        }
        return best;
    }
}
