import java.util.NoSuchElementException;

/** A market of endings: each public method keeps the promise of its name in the document. */
public final class EndingMarket {
    public static final int NONE = -1;

    private static final int MOST_KINDS = 6;
    private static final int MOST_MEN = 6;
    private static final int MOST_THINGS = 8;
    private static final int MOST_ENDINGS = 10;
    private static final int MOST_NAMES = 30;
    private static final int MOST_OPEN = 99;
    private static final int LAST_DAY = 400;
    private static final int MOST_DAYS_AT_ONCE = 60;

    private static final int MOST_TAPE = 940;
    private static final int FED_AT_ONCE = 20;
    private static final int MOST_MARKET = 900;
    private static final int MOST_LEDGER = 400;
    private static final int MOST_LEDGER_LINES = 40;
    private static final int MOST_SENTENCE = 200;
    private static final int MOST_ONES = 20;
    private static final int MOST_WITHIN = 8;

    private static final int MOST_UNDONE = 8;
    private static final int IMAGES = 2;
    private static final int MOST_SEEDS = 30;
    private static final int DAYS_OF_ODDS = 20;
    private static final int NO_SUCH_LIVES = -1000;

    private static final int CANT_COME = 1;
    private static final int WRONG_NUMBER = 2;
    private static final int WRONG_NAME = 3;
    private static final int TOO_MANY = 4;

    // Where each word stands in WORDS. The first four are the sorts of names, too.
    private static final int KIND = 0;
    private static final int MAN = 1;
    private static final int THING = 2;
    private static final int ENDING = 3;
    private static final int FALSE = 4;
    private static final int DUSK = 5;
    private static final int BUYS = 6;
    private static final int PUTS = 7;
    private static final int DAY = 8;
    private static final int OR = 9;
    private static final int AND = 10;
    private static final int NOT = 11;
    private static final int ENDED = 12;
    private static final int OF = 13;
    private static final int HAS = 14;
    private static final int FITS = 15;
    private static final int OPEN = 16;
    private static final int PAGES = 17;
    private static final int NUMBER = 18;
    private static final int WORD_COUNT = 19;
    private static final String WORDS =
            "kind man thing ending false dusk buys puts day or and not ended of has fits open pages number ";

    private final Tape tape = new Tape();
    private final Facts facts = new Facts();
    private final Facts newFacts = new Facts();
    private final Affairs affairs = new Affairs(facts);
    private final Affairs trial = new Affairs(facts);
    private final Past past = new Past(facts);
    private final Sentence claim = new Sentence();
    private final Sentence newClaim = new Sentence();
    private final Ledger book = new Ledger();
    private final Orders orders = new Orders(facts, affairs);
    private final Matches matches = new Matches(facts, affairs);
    private final Rings rings = new Rings(facts, affairs);
    private final Draws draws = new Draws();
    private final Image[] images = new Image[IMAGES];
    private int faultKind = 0;
    private int askedKind = NONE;
    private int haggledRounds = NONE;

    public EndingMarket() {
        for (int k = 0; k < IMAGES; k++) {
            images[k] = new Image();
        }
    }

    public int feed(int a, int b, int c, int d, int e) {
        if (tape.size + FED_AT_ONCE > MOST_TAPE) {
            return NONE;
        }
        tape.add(a);
        tape.add(b);
        tape.add(c);
        tape.add(d);
        tape.add(e);
        return tape.size;
    }

    public boolean end(int n) {
        if (n < 0 || n > tape.size) {
            return false;
        }
        tape.size = n;
        return true;
    }

    public int market() {
        tape.begin(MOST_MARKET);
        boolean read = newFacts.read(tape);
        leaveText();
        if (!read) {
            return -1 - tape.faultPlace;
        }
        facts.copy(newFacts);
        affairs.begin();
        claim.clear();
        past.clear();
        return facts.lines;
    }

    public int fault() {
        return faultKind;
    }

    public int thing(int t, int what) throws NoSuchElementException {
        if (!facts.isThing(t)) {
            throw new NoSuchElementException("no such thing");
        }
        switch (what) {
            case 0:
                return facts.thingMan[t];
            case 1:
                return affairs.allOpen(t);
            case 2:
                return affairs.pages(t);
            case 3:
                return affairs.openKinds(t);
            case 4:
                return affairs.fitting(t);
            case 5:
                return affairs.darkPages(t);
            default:
                throw new NoSuchElementException("nothing such is told of a thing");
        }
    }

    public int open(int t, int k) {
        if (!facts.isThing(t) || !facts.isKind(k)) {
            return NONE;
        }
        return affairs.amount(t, k);
    }

    public int ending(int e, int what) throws NoSuchElementException {
        if (!facts.isEnding(e)) {
            throw new NoSuchElementException("no such ending");
        }
        switch (what) {
            case 0:
                return affairs.holder[e];
            case 1:
                return affairs.price[e];
            case 2:
                return affairs.place[e];
            case 3:
                return affairs.putDay[e];
            case 4:
                return affairs.wentOn[e];
            case 5:
                return affairs.sold[e];
            case 6:
                return facts.closesInAll(e);
            default:
                throw new NoSuchElementException("nothing such is told of an ending");
        }
    }

    public int closes(int e, int k) {
        if (!facts.isEnding(e) || !facts.isKind(k)) {
            return NONE;
        }
        return facts.closed(e, k);
    }

    public int man(int m, int what) {
        if (!facts.isMan(m)) {
            return NONE;
        }
        switch (what) {
            case 0:
                return affairs.coin[m];
            case 1:
                return facts.thingsOf(m);
            case 2:
                return affairs.endingsOf(m);
            case 3:
                return affairs.bought[m];
            case 4:
                return affairs.puts[m];
            default:
                return NONE;
        }
    }

    public int now(int what) {
        switch (what) {
            case 0:
                return affairs.day;
            case 1:
                return affairs.ended();
            case 2:
                return affairs.allPut();
            case 3:
                return affairs.allCoin();
            case 4:
                return affairs.openInAll();
            case 5:
                return affairs.allWentOn();
            default:
                return NONE;
        }
    }

    public int buy(int m, int e) {
        int why = affairs.whyNotBuy(m, e);
        if (why == 0) {
            past.keep(affairs);
            affairs.sell(m, e);
        }
        return why;
    }

    public int put(int m, int e, int t) {
        int why = affairs.whyNotPut(m, e, t);
        if (why == 0) {
            past.keep(affairs);
            affairs.lay(m, e, t);
        }
        return why;
    }

    public int days(int n) {
        if (n < 1 || n > MOST_DAYS_AT_ONCE) {
            return NONE;
        }
        int going = Math.min(n, affairs.daysLeft());
        if (going > 0) {
            past.keep(affairs);
            affairs.passDays(going);
        }
        return going;
    }

    public int undo() {
        return past.takeBack(affairs);
    }

    public int fits(int e, int t) {
        if (!facts.isEnding(e) || !facts.isThing(t) || affairs.isPut(e)) {
            return NONE;
        }
        return affairs.suits(e, t) ? 1 : 0;
    }

    public int ends(int t) {
        return facts.isThing(t) ? orders.leastCoin(t) : NONE;
    }

    public int row(int k) {
        return orders.rowAt(k);
    }

    public int street(int set) {
        return facts.areThings(set) ? matches.leastCoin(set) : NONE;
    }

    public int has(int t) {
        return matches.given(t);
    }

    public int covers(int set) {
        return facts.areThings(set) ? matches.fewest(set) : NONE;
    }

    public int tray() {
        return matches.cover;
    }

    public int was() {
        int things = orders.readLastPage(tape) ? orders.cameSo() : NONE;
        tape.size = 0;
        if (things > 0) {
            askedKind = facts.mostUnlike(things);
        }
        return things;
    }

    public int ask() {
        return askedKind;
    }

    public int haggle(int m, int e) {
        if (!facts.isMan(m) || !facts.isEnding(e) || affairs.isPut(e) || affairs.holder[e] == m) {
            return NONE;
        }
        // Each round brings bid and price 3 nearer to one another.
        int round = (affairs.price[e] + 2) / 3;
        int asked = affairs.price[e] - round;
        if (asked > affairs.coin[m]) {
            return NONE;
        }
        haggledRounds = round;
        return asked;
    }

    public int rounds() {
        return haggledRounds;
    }

    public int likes(int m, int e) {
        if (!facts.isMan(m) || !facts.isEnding(e) || affairs.isPut(e)) {
            return NONE;
        }
        return affairs.liking(m, e);
    }

    public int gets(int m) {
        if (!facts.isMan(m)) {
            return NONE;
        }
        rings.form();
        return rings.won[m];
    }

    public int trade() {
        rings.form();
        int changed = rings.changed();
        if (changed > 0) {
            past.keep(affairs);
            rings.handOver();
        }
        return changed;
    }

    public int when(int t) {
        // What is open grows only, if nothing is done: it is nothing now, or never.
        if (!facts.isThing(t) || affairs.day >= LAST_DAY || affairs.allOpen(t) > 0) {
            return NONE;
        }
        return affairs.day;
    }

    public int later(int t, int d) {
        if (!facts.isThing(t) || d < affairs.day || d > LAST_DAY) {
            return NONE;
        }
        return affairs.openAt(t, d);
    }

    public int dark() {
        return affairs.waiting();
    }

    public int cheapest(int t) {
        return facts.isThing(t) ? affairs.cheapestOfOthers(t) : NONE;
    }

    public int drawn(int n, int seed) {
        if (n < 1 || n > MOST_DAYS_AT_ONCE || facts.endings == 0 || facts.things == 0) {
            return NONE;
        }
        int going = Math.min(n, affairs.daysLeft());
        if (going > 0) {
            past.keep(affairs);
            draws.live(affairs, going, seed);
        }
        return going;
    }

    public int odds(int t, int n, int seed) {
        if (!facts.isThing(t) || n < 1 || n > MOST_SEEDS || facts.endings == 0) {
            return NONE;
        }
        int going = Math.min(DAYS_OF_ODDS, affairs.daysLeft());
        int ended = 0;
        for (int i = 0; i < n; i++) {
            trial.copy(affairs);
            draws.live(trial, going, seed + i);
            if (trial.allOpen(t) == 0) {
                ended++;
            }
        }
        return ended;
    }

    public int ledger(int lives) {
        if (lives != 0 && lives != 1) {
            return NO_SUCH_LIVES;
        }
        tape.begin(MOST_LEDGER);
        boolean read = book.read(tape, facts);
        leaveText();
        if (!read) {
            return -2 - tape.faultPlace;
        }
        trial.copy(affairs);
        int wrong = book.judge(trial);
        if (lives == 1 && book.ahead > 0) {
            past.keep(affairs);
            affairs.copy(trial);
        }
        return wrong;
    }

    public int told(int what) {
        return book.verdict(what);
    }

    public int sentence() {
        tape.begin(MOST_SENTENCE);
        newClaim.clear();
        boolean read = newClaim.readCondition(tape, facts, 1) && tape.takeEnd();
        leaveText();
        if (!read) {
            return -1 - tape.faultPlace;
        }
        claim.copy(newClaim);
        return claim.ones;
    }

    public int said(int k) {
        if (claim.ones == 0 || k < NONE) {
            return NONE;
        }
        int seen = 0;
        for (int t = 0; t < facts.things; t++) {
            if (claim.holds(affairs, t)) {
                if (seen == k) {
                    return t;
                }
                seen++;
            }
        }
        return k == NONE ? seen : NONE;
    }

    public boolean image(int k) {
        if (k < 0 || k >= IMAGES) {
            return false;
        }
        images[k].keep(facts, affairs, claim);
        return true;
    }

    public boolean restore(int k) {
        if (k < 0 || k >= IMAGES || !images[k].kept) {
            return false;
        }
        facts.copy(images[k].facts);
        affairs.copy(images[k].affairs);
        claim.copy(images[k].claim);
        past.clear();
        return true;
    }

    public int count(int what) {
        switch (what) {
            case 0:
                return facts.kinds;
            case 1:
                return facts.men;
            case 2:
                return facts.things;
            case 3:
                return facts.endings;
            case 4:
                return facts.dusk;
            case 5:
                return tape.size;
            default:
                return NONE;
        }
    }

    private void leaveText() {
        faultKind = tape.faultKind;
        tape.size = 0;
    }

    private static boolean isIn(int set, int i) {
        return (set >> i & 1) != 0;
    }

    /** The bytes that were fed, and the token at which a text among them is being read. */
    private static final class Tape {
        // What the token is; a sign is told by its own byte.
        private static final int NO_TOKEN = 0;
        private static final int WORD = 1;
        private static final int FIGURE = 2;
        private static final int TEXT_END = 3;
        private static final int CUT_OFF = 4;
        private static final int MOST_LETTERS = 7;
        private static final int MOST_DIGITS = 3;

        private final int[] bytes = new int[MOST_TAPE];
        private final long[] words = new long[WORD_COUNT];
        int size = 0;
        private int most = 0;
        private int next = 0;
        private int token = NO_TOKEN;
        private int place = 0;
        /** The letters of a word, five bits each: no two words are alike in it. */
        long letters = 0;
        private int key = NONE;
        private int value = 0;
        int faultKind = 0;
        int faultPlace = 0;

        Tape() {
            int w = 0;
            long word = 0;
            for (int i = 0; i < WORDS.length() && w < WORD_COUNT; i++) {
                char sign = WORDS.charAt(i);
                if (sign == ' ') {
                    words[w] = word;
                    word = 0;
                    w++;
                } else {
                    word = word * 32 + (sign - 'a' + 1);
                }
            }
        }

        void add(int number) {
            for (int shift = 24; shift >= 0; shift -= 8) {
                if (size < MOST_TAPE) {
                    bytes[size] = number >>> shift & 255;
                    size++;
                }
            }
        }

        int at(int i) {
            return i >= 0 && i < size ? bytes[i] : 0;
        }

        void begin(int mostBytes) {
            most = mostBytes;
            next = 0;
            faultKind = 0;
            faultPlace = 0;
            step();
        }

        void step() {
            int until = Math.min(size, most);
            int i = next;
            while (i < until && isBlank(bytes[i])) {
                i++;
            }
            key = NONE;
            if (i >= until) {
                place = until;
                token = size > most ? CUT_OFF : TEXT_END;
                return;
            }
            place = i;
            readRun();
            if (next == place) {
                token = isSign(bytes[i]) ? bytes[i] : NO_TOKEN;
                next = i + 1;
            } else if (token == WORD) {
                findKey();
            }
        }

        /** Reads letters and digits, as far as they go: none, if it is not at one. */
        private void readRun() {
            int small = 0;
            int digits = 0;
            letters = 0;
            value = 0;
            int i = place;
            for (; i < size; i++) {
                int b = bytes[i];
                if (b >= 'a' && b <= 'z') {
                    small++;
                    letters = letters * 32 + (b - 'a' + 1);
                } else if (b >= '0' && b <= '9') {
                    digits++;
                    value = value * 10 + (b - '0');
                } else {
                    break;
                }
            }
            next = i;
            token = NO_TOKEN;
            if (digits == 0 && small <= MOST_LETTERS) {
                token = WORD;
            } else if (small == 0 && digits <= MOST_DIGITS) {
                token = FIGURE;
            }
        }

        private void findKey() {
            for (int w = 0; w < WORD_COUNT; w++) {
                if (words[w] == letters) {
                    key = w;
                }
            }
        }

        private static boolean isBlank(int b) {
            return b == 32 || b == 10;
        }

        private static boolean isSign(int b) {
            return b == ';' || b == '<' || b == '=' || b == '>' || b == '(' || b == ')';
        }

        boolean atEnd() {
            return token == TEXT_END;
        }

        boolean atName() {
            return token == WORD && key == NONE;
        }

        boolean atSign(char sign) {
            return token == sign;
        }

        /** The word of the language at which it is, or NONE. */
        int word() {
            return key;
        }

        /** The sign of a comparison at which it is, or NONE. */
        int comparison() {
            return atSign('<') || atSign('=') || atSign('>') ? token : NONE;
        }

        /** Answers false, so that whoever reads can give it on. */
        boolean fail(int kind) {
            faultKind = kind;
            faultPlace = place;
            return false;
        }

        boolean takeEnd() {
            return atEnd() || fail(CANT_COME);
        }

        boolean takeSign(char sign) {
            if (!atSign(sign)) {
                return fail(CANT_COME);
            }
            step();
            return true;
        }

        /** The number at which it is, if it is as told; else NONE, with a fault. */
        int takeNumber(int least, int highest) {
            if (token != FIGURE) {
                fail(CANT_COME);
                return NONE;
            }
            if (value < least || value > highest) {
                fail(WRONG_NUMBER);
                return NONE;
            }
            int number = value;
            step();
            return number;
        }
    }

    /** A market as its text told it: what no deed changes. */
    private static final class Facts {
        private static final int DUSK_WITHOUT_WORD = 1;

        int kinds = 0;
        int men = 0;
        int things = 0;
        int endings = 0;
        int lines = 0;
        int dusk = DUSK_WITHOUT_WORD;
        private int names = 0;
        private final long[] nameLetters = new long[MOST_NAMES];
        private final int[] nameSort = new int[MOST_NAMES];
        private final int[] nameNumber = new int[MOST_NAMES];
        final int[] coin = new int[MOST_MEN];
        final int[] thingMan = new int[MOST_THINGS];
        final int[] thingOpen = new int[MOST_THINGS * MOST_KINDS];
        final int[] endingMan = new int[MOST_ENDINGS];
        final int[] endingPrice = new int[MOST_ENDINGS];
        final int[] endingCloses = new int[MOST_ENDINGS * MOST_KINDS];
        /** For each ending after how many days it proves false; 0: never. */
        final int[] falseDays = new int[MOST_ENDINGS];

        void copy(Facts from) {
            kinds = from.kinds;
            men = from.men;
            things = from.things;
            endings = from.endings;
            lines = from.lines;
            dusk = from.dusk;
            names = from.names;
            System.arraycopy(from.nameLetters, 0, nameLetters, 0, MOST_NAMES);
            System.arraycopy(from.nameSort, 0, nameSort, 0, MOST_NAMES);
            System.arraycopy(from.nameNumber, 0, nameNumber, 0, MOST_NAMES);
            System.arraycopy(from.coin, 0, coin, 0, MOST_MEN);
            System.arraycopy(from.thingMan, 0, thingMan, 0, MOST_THINGS);
            System.arraycopy(from.thingOpen, 0, thingOpen, 0, MOST_THINGS * MOST_KINDS);
            System.arraycopy(from.endingMan, 0, endingMan, 0, MOST_ENDINGS);
            System.arraycopy(from.endingPrice, 0, endingPrice, 0, MOST_ENDINGS);
            System.arraycopy(from.endingCloses, 0, endingCloses, 0, MOST_ENDINGS * MOST_KINDS);
            System.arraycopy(from.falseDays, 0, falseDays, 0, MOST_ENDINGS);
        }

        private void clear() {
            kinds = 0;
            men = 0;
            things = 0;
            endings = 0;
            lines = 0;
            dusk = NONE;
            names = 0;
            for (int i = 0; i < MOST_THINGS * MOST_KINDS; i++) {
                thingOpen[i] = 0;
            }
            for (int i = 0; i < MOST_ENDINGS * MOST_KINDS; i++) {
                endingCloses[i] = 0;
            }
            for (int e = 0; e < MOST_ENDINGS; e++) {
                falseDays[e] = 0;
            }
        }

        boolean isKind(int k) {
            return k >= 0 && k < kinds && k < MOST_KINDS;
        }

        boolean isMan(int m) {
            return m >= 0 && m < men && m < MOST_MEN;
        }

        boolean isThing(int t) {
            return t >= 0 && t < things && t < MOST_THINGS;
        }

        boolean isEnding(int e) {
            return e >= 0 && e < endings && e < MOST_ENDINGS;
        }

        boolean areThings(int set) {
            return set >= 0 && set < 1 << things;
        }

        int closed(int e, int k) {
            return e >= 0 && e < MOST_ENDINGS && k >= 0 && k < MOST_KINDS ? endingCloses[e * MOST_KINDS + k] : 0;
        }

        int firstOpen(int t, int k) {
            return t >= 0 && t < MOST_THINGS && k >= 0 && k < MOST_KINDS ? thingOpen[t * MOST_KINDS + k] : 0;
        }

        int closesInAll(int e) {
            int sum = 0;
            for (int k = 0; k < kinds; k++) {
                sum += closed(e, k);
            }
            return sum;
        }

        int thingsOf(int m) {
            int set = 0;
            for (int t = 0; t < things; t++) {
                if (thingMan[t] == m) {
                    set |= 1 << t;
                }
            }
            return set;
        }

        /** The first kind of which these things had most unlike amounts open; NONE: there is no kind. */
        int mostUnlike(int set) {
            int best = NONE;
            int most = 0;
            for (int k = 0; k < kinds; k++) {
                int unlike = unlikeAmounts(set, k);
                if (unlike > most) {
                    most = unlike;
                    best = k;
                }
            }
            return best;
        }

        private int unlikeAmounts(int set, int k) {
            int seen = 0;
            for (int t = 0; t < things; t++) {
                if (isIn(set, t)) {
                    seen |= 1 << firstOpen(t, k);
                }
            }
            return Integer.bitCount(seen);
        }

        boolean read(Tape tape) {
            clear();
            for (int i = 0; i < MOST_TAPE && !tape.atEnd(); i++) {
                if (!readLine(tape) || !tape.takeSign(';')) {
                    return false;
                }
                lines++;
            }
            if (dusk == NONE) {
                dusk = DUSK_WITHOUT_WORD;
            }
            return tape.takeEnd();
        }

        private boolean readLine(Tape tape) {
            switch (tape.word()) {
                case KIND:
                    return readKind(tape);
                case MAN:
                    return readMan(tape);
                case THING:
                    return readThing(tape);
                case ENDING:
                    return readEnding(tape);
                case FALSE:
                    return readFalse(tape);
                case DUSK:
                    return readDusk(tape);
                default:
                    return tape.fail(CANT_COME);
            }
        }

        private boolean readKind(Tape tape) {
            if (kinds >= MOST_KINDS) {
                return tape.fail(TOO_MANY);
            }
            tape.step();
            if (!takeNewName(tape, KIND, kinds)) {
                return false;
            }
            kinds++;
            return true;
        }

        private boolean readMan(Tape tape) {
            if (men >= MOST_MEN) {
                return tape.fail(TOO_MANY);
            }
            tape.step();
            if (!takeNewName(tape, MAN, men)) {
                return false;
            }
            int m = men;
            men++;
            coin[m] = tape.takeNumber(0, 999);
            return coin[m] != NONE;
        }

        private boolean readThing(Tape tape) {
            if (things >= MOST_THINGS) {
                return tape.fail(TOO_MANY);
            }
            tape.step();
            if (!takeNewName(tape, THING, things)) {
                return false;
            }
            int t = things;
            things++;
            thingMan[t] = takeName(tape, MAN);
            return thingMan[t] != NONE && readAmounts(tape, thingOpen, t * MOST_KINDS);
        }

        private boolean readEnding(Tape tape) {
            if (endings >= MOST_ENDINGS) {
                return tape.fail(TOO_MANY);
            }
            tape.step();
            if (!takeNewName(tape, ENDING, endings)) {
                return false;
            }
            int e = endings;
            endings++;
            endingMan[e] = takeName(tape, MAN);
            if (endingMan[e] == NONE) {
                return false;
            }
            endingPrice[e] = tape.takeNumber(0, 99);
            return endingPrice[e] != NONE && readAmounts(tape, endingCloses, e * MOST_KINDS);
        }

        private boolean readAmounts(Tape tape, int[] amounts, int from) {
            for (int i = 0; i <= MOST_KINDS && !tape.atSign(';'); i++) {
                int k = lookUp(tape, KIND);
                if (k < 0 || from < 0 || from + k >= amounts.length) {
                    return false;
                }
                if (amounts[from + k] != 0) {
                    return tape.fail(WRONG_NAME);
                }
                tape.step();
                int amount = tape.takeNumber(1, 9);
                if (amount == NONE) {
                    return false;
                }
                amounts[from + k] = amount;
            }
            return true;
        }

        private boolean readFalse(Tape tape) {
            tape.step();
            int e = lookUp(tape, ENDING);
            if (!isEnding(e)) {
                return false;
            }
            if (falseDays[e] != 0) {
                return tape.fail(WRONG_NAME);
            }
            tape.step();
            falseDays[e] = tape.takeNumber(1, MOST_DAYS_AT_ONCE);
            return falseDays[e] != NONE;
        }

        private boolean readDusk(Tape tape) {
            if (dusk != NONE) {
                return tape.fail(WRONG_NAME);
            }
            tape.step();
            dusk = tape.takeNumber(0, 9);
            return dusk != NONE;
        }

        private int findName(long letters) {
            for (int i = 0; i < names; i++) {
                if (nameLetters[i] == letters) {
                    return i;
                }
            }
            return NONE;
        }

        private boolean takeNewName(Tape tape, int sort, int number) {
            if (!tape.atName()) {
                return tape.fail(CANT_COME);
            }
            if (findName(tape.letters) != NONE || names >= MOST_NAMES) {
                return tape.fail(WRONG_NAME);
            }
            nameLetters[names] = tape.letters;
            nameSort[names] = sort;
            nameNumber[names] = number;
            names++;
            tape.step();
            return true;
        }

        /** The number of the name at which the tape is, if it is of this sort; else NONE, with a fault. */
        private int lookUp(Tape tape, int sort) {
            if (!tape.atName()) {
                tape.fail(CANT_COME);
                return NONE;
            }
            int i = findName(tape.letters);
            if (i < 0 || i >= MOST_NAMES || nameSort[i] != sort) {
                tape.fail(WRONG_NAME);
                return NONE;
            }
            return nameNumber[i];
        }

        int takeName(Tape tape, int sort) {
            int number = lookUp(tape, sort);
            if (number != NONE) {
                tape.step();
            }
            return number;
        }
    }

    /** All that is so on a day: what deeds and days change. */
    private static final class Affairs {
        private final Facts facts;
        int day = 0;
        final int[] coin = new int[MOST_MEN];
        final int[] bought = new int[MOST_MEN];
        final int[] puts = new int[MOST_MEN];
        private final int[] amounts = new int[MOST_THINGS * MOST_KINDS];
        final int[] holder = new int[MOST_ENDINGS];
        final int[] price = new int[MOST_ENDINGS];
        /** The thing to which an ending was put, or NONE. */
        final int[] place = new int[MOST_ENDINGS];
        final int[] putDay = new int[MOST_ENDINGS];
        final int[] wentOn = new int[MOST_ENDINGS];
        final int[] sold = new int[MOST_ENDINGS];
        /** What each ending did close where it was put: less than it could, if less was open. */
        private final int[] shut = new int[MOST_ENDINGS * MOST_KINDS];

        Affairs(Facts facts) {
            this.facts = facts;
        }

        void begin() {
            day = 0;
            System.arraycopy(facts.coin, 0, coin, 0, MOST_MEN);
            System.arraycopy(facts.thingOpen, 0, amounts, 0, MOST_THINGS * MOST_KINDS);
            System.arraycopy(facts.endingMan, 0, holder, 0, MOST_ENDINGS);
            System.arraycopy(facts.endingPrice, 0, price, 0, MOST_ENDINGS);
            for (int m = 0; m < MOST_MEN; m++) {
                bought[m] = 0;
                puts[m] = 0;
            }
            for (int e = 0; e < MOST_ENDINGS; e++) {
                place[e] = NONE;
                putDay[e] = NONE;
                wentOn[e] = 0;
                sold[e] = 0;
            }
        }

        void copy(Affairs from) {
            day = from.day;
            System.arraycopy(from.coin, 0, coin, 0, MOST_MEN);
            System.arraycopy(from.bought, 0, bought, 0, MOST_MEN);
            System.arraycopy(from.puts, 0, puts, 0, MOST_MEN);
            System.arraycopy(from.amounts, 0, amounts, 0, MOST_THINGS * MOST_KINDS);
            System.arraycopy(from.holder, 0, holder, 0, MOST_ENDINGS);
            System.arraycopy(from.price, 0, price, 0, MOST_ENDINGS);
            System.arraycopy(from.place, 0, place, 0, MOST_ENDINGS);
            System.arraycopy(from.putDay, 0, putDay, 0, MOST_ENDINGS);
            System.arraycopy(from.wentOn, 0, wentOn, 0, MOST_ENDINGS);
            System.arraycopy(from.sold, 0, sold, 0, MOST_ENDINGS);
            System.arraycopy(from.shut, 0, shut, 0, MOST_ENDINGS * MOST_KINDS);
        }

        int daysLeft() {
            return LAST_DAY - day;
        }

        int amount(int t, int k) {
            return t >= 0 && t < MOST_THINGS && k >= 0 && k < MOST_KINDS ? amounts[t * MOST_KINDS + k] : 0;
        }

        private void setAmount(int t, int k, int amount) {
            if (t >= 0 && t < MOST_THINGS && k >= 0 && k < MOST_KINDS) {
                amounts[t * MOST_KINDS + k] = amount;
            }
        }

        private int shutBy(int e, int k) {
            return e >= 0 && e < MOST_ENDINGS && k >= 0 && k < MOST_KINDS ? shut[e * MOST_KINDS + k] : 0;
        }

        boolean isPut(int e) {
            return e >= 0 && e < MOST_ENDINGS && place[e] != NONE;
        }

        int allOpen(int t) {
            int sum = 0;
            for (int k = 0; k < facts.kinds; k++) {
                sum += amount(t, k);
            }
            return sum;
        }

        int openKinds(int t) {
            int set = 0;
            for (int k = 0; k < facts.kinds; k++) {
                if (amount(t, k) > 0) {
                    set |= 1 << k;
                }
            }
            return set;
        }

        int openInAll() {
            int sum = 0;
            for (int t = 0; t < facts.things; t++) {
                sum += allOpen(t);
            }
            return sum;
        }

        int ended() {
            int set = 0;
            for (int t = 0; t < facts.things; t++) {
                if (allOpen(t) == 0) {
                    set |= 1 << t;
                }
            }
            return set;
        }

        int pages(int t) {
            int pages = 0;
            for (int e = 0; e < facts.endings; e++) {
                if (place[e] == t) {
                    pages++;
                }
            }
            return pages;
        }

        int darkPages(int t) {
            int pages = 0;
            for (int e = 0; e < facts.endings; e++) {
                if (place[e] == t) {
                    pages += wentOn[e];
                }
            }
            return pages;
        }

        int allWentOn() {
            int sum = 0;
            for (int e = 0; e < facts.endings; e++) {
                sum += wentOn[e];
            }
            return sum;
        }

        int allPut() {
            int set = 0;
            for (int e = 0; e < facts.endings; e++) {
                if (isPut(e)) {
                    set |= 1 << e;
                }
            }
            return set;
        }

        int allCoin() {
            int sum = 0;
            for (int m = 0; m < facts.men; m++) {
                sum += coin[m];
            }
            return sum;
        }

        int endingsOf(int m) {
            int set = 0;
            for (int e = 0; e < facts.endings; e++) {
                if (holder[e] == m) {
                    set |= 1 << e;
                }
            }
            return set;
        }

        boolean suits(int e, int t) {
            boolean some = false;
            for (int k = 0; k < facts.kinds; k++) {
                if (facts.closed(e, k) > 0) {
                    if (amount(t, k) == 0) {
                        return false;
                    }
                    some = true;
                }
            }
            return some;
        }

        int fitting(int t) {
            int set = 0;
            for (int e = 0; e < facts.endings; e++) {
                if (!isPut(e) && suits(e, t)) {
                    set |= 1 << e;
                }
            }
            return set;
        }

        /** How much would be closed, were this ending put to this thing. */
        private int wouldClose(int e, int t) {
            int sum = 0;
            for (int k = 0; k < facts.kinds; k++) {
                sum += Math.min(facts.closed(e, k), amount(t, k));
            }
            return sum;
        }

        /** Those that fit a thing, each of which would leave nothing open. */
        int enders(int t) {
            int fitting = fitting(t);
            int all = allOpen(t);
            int set = 0;
            for (int e = 0; e < facts.endings; e++) {
                if (isIn(fitting, e) && wouldClose(e, t) == all) {
                    set |= 1 << e;
                }
            }
            return set;
        }

        int liking(int m, int e) {
            int most = 0;
            for (int t = 0; t < facts.things; t++) {
                if (facts.thingMan[t] == m && suits(e, t)) {
                    most = Math.max(most, wouldClose(e, t));
                }
            }
            return most;
        }

        int cheapestOfOthers(int t) {
            int fitting = fitting(t);
            int best = NONE;
            for (int e = 0; e < facts.endings; e++) {
                if (isIn(fitting, e) && facts.isThing(t) && holder[e] != facts.thingMan[t]
                        && (best == NONE || price[e] < price[best])) {
                    best = e;
                }
            }
            return best;
        }

        /** NONE: there are no such ones. */
        int whyNotBuy(int m, int e) {
            if (!facts.isMan(m) || !facts.isEnding(e)) {
                return NONE;
            }
            if (isPut(e)) {
                return 1;
            }
            if (holder[e] == m) {
                return 2;
            }
            return coin[m] < price[e] ? 3 : 0;
        }

        /** Sells it to him, if nothing is against it; answers what is. */
        int sell(int m, int e) {
            int why = whyNotBuy(m, e);
            if (why != 0) {
                return why;
            }
            int seller = holder[e];
            if (facts.isMan(seller)) {
                coin[seller] += price[e];
            }
            coin[m] -= price[e];
            holder[e] = m;
            bought[m]++;
            sold[e]++;
            return 0;
        }

        /** NONE: there are no such ones. */
        int whyNotPut(int m, int e, int t) {
            if (!facts.isMan(m) || !facts.isEnding(e) || !facts.isThing(t)) {
                return NONE;
            }
            if (isPut(e)) {
                return 1;
            }
            if (holder[e] != m || facts.thingMan[t] != m) {
                return 2;
            }
            return suits(e, t) ? 0 : 3;
        }

        /** Puts it there for him, if nothing is against it; answers what is. */
        int lay(int m, int e, int t) {
            int why = whyNotPut(m, e, t);
            if (why != 0) {
                return why;
            }
            for (int k = 0; k < facts.kinds; k++) {
                int less = Math.min(facts.closed(e, k), amount(t, k));
                shut[e * MOST_KINDS + k] = less;
                setAmount(t, k, amount(t, k) - less);
            }
            holder[e] = NONE;
            place[e] = t;
            putDay[e] = day;
            puts[m]++;
            return 0;
        }

        void passDays(int n) {
            for (int i = 0; i < n; i++) {
                passDay();
            }
        }

        private void passDay() {
            for (int e = 0; e < facts.endings; e++) {
                if (isWaiting(e) && lastQuietDay(e) == day) {
                    goOn(e);
                }
            }
            for (int e = 0; e < facts.endings; e++) {
                if (!isPut(e) && sold[e] == 0) {
                    price[e] = Math.max(0, price[e] - facts.dusk);
                }
            }
            day++;
        }

        private boolean isWaiting(int e) {
            return isPut(e) && facts.falseDays[e] > 0 && wentOn[e] == 0;
        }

        /** The day at whose end a false ending that was put goes on. */
        private int lastQuietDay(int e) {
            return putDay[e] + facts.falseDays[e] - 1;
        }

        private void goOn(int e) {
            int t = place[e];
            for (int k = 0; k < facts.kinds; k++) {
                setAmount(t, k, Math.min(MOST_OPEN, amount(t, k) + shutBy(e, k)));
            }
            wentOn[e] = 1;
        }

        int waiting() {
            int set = 0;
            for (int e = 0; e < facts.endings; e++) {
                if (isWaiting(e)) {
                    set |= 1 << e;
                }
            }
            return set;
        }

        int openAt(int t, int d) {
            int sum = 0;
            for (int k = 0; k < facts.kinds; k++) {
                int amount = amount(t, k);
                for (int e = 0; e < facts.endings; e++) {
                    if (place[e] == t && isWaiting(e) && lastQuietDay(e) < d) {
                        amount += shutBy(e, k);
                    }
                }
                sum += Math.min(MOST_OPEN, amount);
            }
            return sum;
        }
    }

    /** What was so ahead of the latest deeds. */
    private static final class Past {
        private final Affairs[] kept = new Affairs[MOST_UNDONE];
        private int size = 0;
        private int next = 0;

        Past(Facts facts) {
            for (int i = 0; i < MOST_UNDONE; i++) {
                kept[i] = new Affairs(facts);
            }
        }

        void clear() {
            size = 0;
            next = 0;
        }

        void keep(Affairs affairs) {
            kept[next].copy(affairs);
            next = next + 1 < MOST_UNDONE ? next + 1 : 0;
            size = Math.min(size + 1, MOST_UNDONE);
        }

        int takeBack(Affairs affairs) {
            if (size == 0) {
                return NONE;
            }
            next = next > 0 ? next - 1 : MOST_UNDONE - 1;
            affairs.copy(kept[next]);
            size--;
            return size;
        }
    }

    /** A sentence, each part behind the parts that it joins, so that it is said from left to right. */
    private static final class Sentence {
        private static final int MOST_PARTS = 2 * MOST_ONES;

        int ones = 0;
        private int parts = 0;
        private final int[] part = new int[MOST_PARTS];
        /** Whom or what a part names; the sign of a comparison. */
        private final int[] named = new int[MOST_PARTS];
        private final int[] number = new int[MOST_PARTS];

        void clear() {
            ones = 0;
            parts = 0;
        }

        void copy(Sentence from) {
            ones = from.ones;
            parts = from.parts;
            System.arraycopy(from.part, 0, part, 0, MOST_PARTS);
            System.arraycopy(from.named, 0, named, 0, MOST_PARTS);
            System.arraycopy(from.number, 0, number, 0, MOST_PARTS);
        }

        private boolean readCondition(Tape tape, Facts facts, int depth) {
            if (!readOne(tape, facts, depth)) {
                return false;
            }
            // An 'or' waits till all that 'and' joins behind it is read.
            boolean orWaits = false;
            for (int i = 0; i < MOST_ONES && (tape.word() == AND || tape.word() == OR); i++) {
                boolean and = tape.word() == AND;
                tape.step();
                if (!and && orWaits) {
                    add(OR, 0, 0);
                }
                if (!readOne(tape, facts, depth)) {
                    return false;
                }
                if (and) {
                    add(AND, 0, 0);
                } else {
                    orWaits = true;
                }
            }
            return !orWaits || add(OR, 0, 0);
        }

        private boolean readOne(Tape tape, Facts facts, int depth) {
            boolean bracket = tape.atSign('(');
            int word = tape.word();
            if (!bracket && word != NOT && (word < ENDED || word > NUMBER)) {
                return tape.fail(CANT_COME);
            }
            if (ones >= MOST_ONES || depth > MOST_WITHIN) {
                return tape.fail(TOO_MANY);
            }
            ones++;
            tape.step();
            if (bracket) {
                return readCondition(tape, facts, depth + 1) && tape.takeSign(')');
            }
            if (word == NOT) {
                return readOne(tape, facts, depth + 1) && add(NOT, 0, 0);
            }
            return word < OPEN ? readNamed(tape, facts, word) : readComparison(tape, word);
        }

        private boolean readNamed(Tape tape, Facts facts, int word) {
            if (word == ENDED) {
                return add(ENDED, 0, 0);
            }
            int sort = word == OF ? MAN : word == HAS ? KIND : ENDING;
            int who = facts.takeName(tape, sort);
            return who != NONE && add(word, who, 0);
        }

        private boolean readComparison(Tape tape, int word) {
            int sign = tape.comparison();
            if (sign == NONE) {
                return tape.fail(CANT_COME);
            }
            tape.step();
            int than = tape.takeNumber(0, 999);
            return than != NONE && add(word, sign, than);
        }

        private boolean add(int word, int who, int than) {
            if (parts < MOST_PARTS) {
                part[parts] = word;
                named[parts] = who;
                number[parts] = than;
                parts++;
            }
            return true;
        }

        boolean holds(Affairs affairs, int t) {
            // What is not joined yet, as bits, the latest the lowest: as many as there are ones, at most.
            int open = 0;
            for (int i = 0; i < parts; i++) {
                int last = open & 1;
                switch (part[i]) {
                    case OR:
                        open = open >> 1 | last;
                        break;
                    case AND:
                        open = open >> 1 & (last | ~1);
                        break;
                    case NOT:
                        open ^= 1;
                        break;
                    default:
                        open = open << 1 | (holdsOne(affairs, t, i) ? 1 : 0);
                }
            }
            return (open & 1) != 0;
        }

        private boolean holdsOne(Affairs affairs, int t, int i) {
            switch (part[i]) {
                case ENDED:
                    return affairs.allOpen(t) == 0;
                case OF:
                    return isIn(affairs.facts.thingsOf(named[i]), t);
                case HAS:
                    return affairs.amount(t, named[i]) > 0;
                case FITS:
                    return !affairs.isPut(named[i]) && affairs.suits(named[i], t);
                case OPEN:
                    return compares(affairs.allOpen(t), i);
                case PAGES:
                    return compares(affairs.pages(t), i);
                default:
                    return compares(t, i);
            }
        }

        private boolean compares(int value, int i) {
            if (named[i] == '<') {
                return value < number[i];
            }
            return named[i] == '=' ? value == number[i] : value > number[i];
        }
    }

    /** The lines of a ledger, and how the latest one was judged. */
    private static final class Ledger {
        private static final int TOO_FEW_DAYS = 21;
        private static final int AS_FOR_PUTTING = 10;

        private int lines = 0;
        private final int[] deed = new int[MOST_LEDGER_LINES];
        private final int[] man = new int[MOST_LEDGER_LINES];
        private final int[] ending = new int[MOST_LEDGER_LINES];
        private final int[] thing = new int[MOST_LEDGER_LINES];
        private final int[] going = new int[MOST_LEDGER_LINES];
        private boolean judged = false;
        private int why = 0;
        int ahead = 0;
        private int dayThen = 0;
        private int endedThen = 0;

        boolean read(Tape tape, Facts facts) {
            lines = 0;
            for (int i = 0; i <= MOST_LEDGER_LINES && !tape.atEnd(); i++) {
                boolean full = lines >= MOST_LEDGER_LINES;
                if (!readFirst(tape, facts, full) || !tape.takeSign(';')) {
                    return false;
                }
                lines++;
            }
            return tape.takeEnd();
        }

        private boolean readFirst(Tape tape, Facts facts, boolean full) {
            boolean day = tape.word() == DAY;
            int who = day ? NONE : facts.lookUp(tape, MAN);
            if (!day && who == NONE) {
                return false;
            }
            if (full) {
                return tape.fail(TOO_MANY);
            }
            tape.step();
            man[lines] = who;
            return day ? readDays(tape) : readDeed(tape, facts);
        }

        private boolean readDays(Tape tape) {
            deed[lines] = DAY;
            going[lines] = tape.takeNumber(1, MOST_DAYS_AT_ONCE);
            return going[lines] != NONE;
        }

        private boolean readDeed(Tape tape, Facts facts) {
            int word = tape.word();
            if (word != BUYS && word != PUTS) {
                return tape.fail(CANT_COME);
            }
            tape.step();
            deed[lines] = word;
            ending[lines] = facts.takeName(tape, ENDING);
            if (ending[lines] == NONE || word == BUYS) {
                return ending[lines] != NONE;
            }
            thing[lines] = facts.takeName(tape, THING);
            return thing[lines] != NONE;
        }

        /** Lives the lines till one is wrong: that one, or NONE. */
        int judge(Affairs trial) {
            judged = true;
            why = 0;
            ahead = 0;
            for (int i = 0; i < lines && why == 0; i++) {
                why = live(trial, i);
                if (why == 0) {
                    ahead++;
                }
            }
            dayThen = trial.day;
            endedThen = trial.ended();
            return why == 0 ? NONE : ahead;
        }

        private int live(Affairs trial, int i) {
            if (deed[i] == DAY) {
                if (going[i] > trial.daysLeft()) {
                    return TOO_FEW_DAYS;
                }
                trial.passDays(going[i]);
                return 0;
            }
            if (deed[i] == BUYS) {
                return trial.sell(man[i], ending[i]);
            }
            int reason = trial.lay(man[i], ending[i], thing[i]);
            return reason == 0 ? 0 : AS_FOR_PUTTING + reason;
        }

        int verdict(int what) {
            if (!judged) {
                return NONE;
            }
            switch (what) {
                case 0:
                    return why;
                case 1:
                    return ahead;
                case 2:
                    return dayThen;
                case 3:
                    return endedThen;
                default:
                    return NONE;
            }
        }
    }

    /** Endings put to one thing, one behind the other. */
    private static final class Orders {
        private final Facts facts;
        private final Affairs affairs;
        private final int[] row = new int[MOST_ENDINGS];
        private int rowLength = 0;
        private final int[] sums = new int[MOST_KINDS];
        private final int[] left = new int[MOST_KINDS];
        private final int[] lastPage = new int[MOST_KINDS];
        private int pagesPut = 0;

        Orders(Facts facts, Affairs affairs) {
            this.facts = facts;
            this.affairs = affairs;
        }

        int rowAt(int k) {
            return k >= 0 && k < rowLength && k < MOST_ENDINGS ? row[k] : NONE;
        }

        int leastCoin(int t) {
            leaveAsNow(t);
            int set = cheapestSet(affairs.fitting(t), affairs.allOpen(t) == 0);
            if (set == NONE) {
                return NONE;
            }
            tellRow(set);
            return coinOf(set);
        }

        private void leaveAsNow(int t) {
            for (int k = 0; k < MOST_KINDS; k++) {
                left[k] = affairs.amount(t, k);
            }
        }

        private void leaveAsTold(int t) {
            for (int k = 0; k < MOST_KINDS; k++) {
                left[k] = facts.firstOpen(t, k);
            }
        }

        /** Only endings that fit now can ever come: what is open gets less with each of them. */
        private int cheapestSet(int fitting, boolean nothingOpen) {
            if (nothingOpen) {
                return 0;
            }
            if (!closesAllLeft(fitting)) {
                return NONE;
            }
            int best = NONE;
            int bestCoin = 0;
            int set = 0;
            for (int i = 0; i < 1 << MOST_ENDINGS; i++) {
                // The next set of these, as bits: the sets come from the least on.
                set = (set - fitting) & fitting;
                if (set == 0) {
                    break;
                }
                int coin = coinOf(set);
                boolean better = best == NONE || coin < bestCoin
                        || coin == bestCoin && Integer.bitCount(set) < Integer.bitCount(best);
                if (better && closesAllLeft(set) && mayFollow(set)) {
                    best = set;
                    bestCoin = coin;
                }
            }
            return best;
        }

        private int coinOf(int set) {
            int coin = 0;
            for (int e = 0; e < facts.endings; e++) {
                if (isIn(set, e)) {
                    coin += affairs.price[e];
                }
            }
            return coin;
        }

        private int closedBy(int set, int k) {
            int sum = 0;
            for (int e = 0; e < facts.endings; e++) {
                if (isIn(set, e)) {
                    sum += facts.closed(e, k);
                }
            }
            return sum;
        }

        private void addUp(int set) {
            for (int k = 0; k < MOST_KINDS; k++) {
                sums[k] = closedBy(set, k);
            }
        }

        private boolean closesAllLeft(int set) {
            for (int k = 0; k < MOST_KINDS; k++) {
                if (closedBy(set, k) < left[k]) {
                    return false;
                }
            }
            return true;
        }

        /**
         * Whether these endings can come in some order in which each fits. The order is sought from its end:
         * an ending that can be the last of some can be the last of fewer, too, so the choice never matters.
         */
        private boolean mayFollow(int set) {
            addUp(set);
            int rest = set;
            for (int i = 0; i < MOST_ENDINGS && rest != 0; i++) {
                int before = rest;
                for (int e = 0; e < facts.endings; e++) {
                    if (isIn(rest, e) && fitsLast(e)) {
                        rest &= ~(1 << e);
                        leaveOut(e);
                    }
                }
                if (rest == before) {
                    return false;
                }
            }
            return rest == 0;
        }

        private void leaveOut(int e) {
            for (int k = 0; k < MOST_KINDS; k++) {
                sums[k] -= facts.closed(e, k);
            }
        }

        /** Whether it fits behind all others of those that are added up. */
        private boolean fitsLast(int e) {
            boolean some = false;
            for (int k = 0; k < MOST_KINDS; k++) {
                int closed = facts.closed(e, k);
                if (closed > 0) {
                    if (sums[k] - closed >= left[k]) {
                        return false;
                    }
                    some = true;
                }
            }
            return some;
        }

        private void tellRow(int set) {
            rowLength = 0;
            int rest = set;
            for (int i = 0; i < MOST_ENDINGS && rest != 0; i++) {
                int first = NONE;
                for (int e = 0; e < facts.endings && first == NONE; e++) {
                    if (isIn(rest, e) && mayBeFirst(e, rest & ~(1 << e))) {
                        first = e;
                    }
                }
                if (first == NONE) {
                    return;
                }
                rest &= ~(1 << first);
                row[i] = first;
                rowLength = i + 1;
                take(first);
            }
        }

        /** Only for endings that may follow all together: so each of them fits now. */
        private boolean mayBeFirst(int e, int others) {
            take(e);
            boolean may = mayFollow(others);
            giveBack(e);
            return may;
        }

        // What is left may be below 0 here: that is nothing open, as 0 is, and can be given back.
        private void take(int e) {
            for (int k = 0; k < MOST_KINDS; k++) {
                left[k] -= facts.closed(e, k);
            }
        }

        private void giveBack(int e) {
            for (int k = 0; k < MOST_KINDS; k++) {
                left[k] += facts.closed(e, k);
            }
        }

        /** Reads what is open on a last page and which endings were put; false: it is not as told. */
        boolean readLastPage(Tape tape) {
            if (tape.size < facts.kinds) {
                return false;
            }
            for (int k = 0; k < MOST_KINDS; k++) {
                lastPage[k] = k < facts.kinds ? tape.at(k) : 0;
            }
            pagesPut = 0;
            for (int i = facts.kinds; i < tape.size; i++) {
                int e = tape.at(i);
                if (!facts.isEnding(e) || isIn(pagesPut, e)) {
                    return false;
                }
                pagesPut |= 1 << e;
            }
            return true;
        }

        /** The things that come to the last page which was read. */
        int cameSo() {
            int set = 0;
            for (int t = 0; t < facts.things; t++) {
                leaveAsTold(t);
                if (leavesLastPage() && mayFollow(pagesPut)) {
                    set |= 1 << t;
                }
            }
            return set;
        }

        private boolean leavesLastPage() {
            for (int k = 0; k < MOST_KINDS; k++) {
                if (Math.max(0, left[k] - closedBy(pagesPut, k)) != lastPage[k]) {
                    return false;
                }
            }
            return true;
        }
    }

    /** Endings for several things at once. */
    private static final class Matches {
        private final Facts facts;
        private final Affairs affairs;
        private final int[] need = new int[MOST_THINGS];
        private int needs = 0;
        /** For each thing in need the endings that would do, as bits. */
        private final int[] may = new int[MOST_THINGS];
        /** By endings that are given already: the least coin for the things still in need, or NONE. */
        private final int[] rest = new int[1 << MOST_ENDINGS];
        private final int[] given = new int[MOST_THINGS];
        int cover = NONE;

        Matches(Facts facts, Affairs affairs) {
            this.facts = facts;
            this.affairs = affairs;
            for (int t = 0; t < MOST_THINGS; t++) {
                given[t] = NONE;
            }
        }

        int given(int t) {
            return t >= 0 && t < MOST_THINGS ? given[t] : NONE;
        }

        private void gather(int set, boolean whole) {
            needs = 0;
            for (int t = 0; t < facts.things; t++) {
                if (isIn(set, t) && affairs.allOpen(t) > 0) {
                    need[needs] = t;
                    may[needs] = whole ? affairs.enders(t) : affairs.fitting(t);
                    needs++;
                }
            }
        }

        /** As many endings are given as things had one: so the given ones tell whose turn it is. */
        int leastCoin(int set) {
            gather(set, true);
            for (int used = (1 << facts.endings) - 1; used >= 0; used--) {
                int turn = Integer.bitCount(used);
                rest[used] = turn >= needs ? 0 : leastRest(used, turn);
            }
            if (rest[0] != NONE) {
                give();
            }
            return rest[0];
        }

        private int leastRest(int used, int turn) {
            int least = NONE;
            int free = freeFor(used, turn);
            for (int e = 0; e < facts.endings; e++) {
                if (isIn(free, e)) {
                    int coin = coinWith(used, e);
                    if (coin != NONE && (least == NONE || coin < least)) {
                        least = coin;
                    }
                }
            }
            return least;
        }

        /** The endings that would do for the thing whose turn it is and are not given yet. */
        private int freeFor(int used, int turn) {
            return turn >= 0 && turn < needs && turn < MOST_THINGS ? may[turn] & ~used : 0;
        }

        private int restBehind(int used) {
            return used >= 0 && used < rest.length ? rest[used] : NONE;
        }

        private int coinWith(int used, int e) {
            int others = restBehind(used | 1 << e);
            return others == NONE ? NONE : others + affairs.price[e];
        }

        private void give() {
            for (int t = 0; t < MOST_THINGS; t++) {
                given[t] = NONE;
            }
            int used = 0;
            for (int turn = 0; turn < needs; turn++) {
                int e = firstBest(used, turn);
                if (e == NONE) {
                    return;
                }
                given[need[turn]] = e;
                used |= 1 << e;
            }
        }

        private int firstBest(int used, int turn) {
            int free = freeFor(used, turn);
            for (int e = 0; e < facts.endings; e++) {
                if (isIn(free, e) && coinWith(used, e) == restBehind(used)) {
                    return e;
                }
            }
            return NONE;
        }

        int fewest(int set) {
            gather(set, false);
            int best = NONE;
            for (int some = 0; some < 1 << facts.endings; some++) {
                boolean fewer = best == NONE || Integer.bitCount(some) < Integer.bitCount(best);
                if (fewer && goWithAll(some)) {
                    best = some;
                }
            }
            if (best == NONE) {
                return NONE;
            }
            cover = best;
            return Integer.bitCount(best);
        }

        private boolean goWithAll(int some) {
            for (int i = 0; i < needs; i++) {
                if ((may[i] & some) == 0) {
                    return false;
                }
            }
            return true;
        }
    }

    /** Men who trade in rings. */
    private static final class Rings {
        private final Facts facts;
        private final Affairs affairs;
        /** The ending with which each man comes, or NONE. */
        private final int[] brought = new int[MOST_MEN];
        private final int[] pointsAt = new int[MOST_MEN];
        final int[] won = new int[MOST_MEN];
        /** Men who are not gone yet, as bits. */
        private int left = 0;

        Rings(Facts facts, Affairs affairs) {
            this.facts = facts;
            this.affairs = affairs;
        }

        void form() {
            come();
            // Each time at least one ring is found, so there are no more times than men.
            for (int i = 0; i < MOST_MEN && left != 0; i++) {
                point();
                leaveInRings();
            }
        }

        private void come() {
            left = 0;
            for (int m = 0; m < MOST_MEN; m++) {
                brought[m] = NONE;
                won[m] = NONE;
                for (int e = 0; e < facts.endings && brought[m] == NONE; e++) {
                    if (affairs.holder[e] == m) {
                        brought[m] = e;
                        left |= 1 << m;
                    }
                }
            }
        }

        private void point() {
            for (int m = 0; m < MOST_MEN; m++) {
                pointsAt[m] = isIn(left, m) ? favourite(m) : NONE;
            }
        }

        private int favourite(int m) {
            int best = NONE;
            int bestLiking = 0;
            for (int other = 0; other < MOST_MEN; other++) {
                if (isIn(left, other)) {
                    int liking = affairs.liking(m, brought[other]);
                    if (best == NONE || liking > bestLiking
                            || liking == bestLiking && brought[other] < brought[best]) {
                        best = other;
                        bestLiking = liking;
                    }
                }
            }
            return best;
        }

        private void leaveInRings() {
            int going = 0;
            for (int m = 0; m < MOST_MEN; m++) {
                if (isIn(left, m) && standsInRing(m)) {
                    going |= 1 << m;
                    won[m] = broughtBy(pointsAt[m]);
                }
            }
            left &= ~going;
        }

        private int broughtBy(int m) {
            return m >= 0 && m < MOST_MEN ? brought[m] : NONE;
        }

        private boolean standsInRing(int m) {
            int at = pointsAt[m];
            for (int i = 0; i < MOST_MEN && at != m; i++) {
                if (at < 0 || at >= MOST_MEN) {
                    return false;
                }
                at = pointsAt[at];
            }
            return at == m;
        }

        int changed() {
            int changed = 0;
            for (int m = 0; m < MOST_MEN; m++) {
                if (won[m] != brought[m]) {
                    changed++;
                }
            }
            return changed;
        }

        void handOver() {
            for (int m = 0; m < MOST_MEN; m++) {
                if (facts.isEnding(won[m])) {
                    affairs.holder[won[m]] = m;
                }
            }
        }
    }

    /** Days on which men do what is drawn. */
    private static final class Draws {
        private int seed = 0;

        private int draw(int n) {
            seed = seed * 1103515245 + 12345;
            return n > 0 ? (seed >>> 8) % n : 0;
        }

        /** Only for a market that has endings and things. */
        void live(Affairs affairs, int days, int firstSeed) {
            seed = firstSeed;
            for (int i = 0; i < days; i++) {
                for (int m = 0; m < affairs.facts.men; m++) {
                    act(affairs, m);
                }
                affairs.passDays(1);
            }
        }

        private void act(Affairs affairs, int m) {
            int deed = draw(3);
            if (deed == 0) {
                affairs.sell(m, draw(affairs.facts.endings));
            } else if (deed == 1) {
                int e = draw(affairs.facts.endings);
                affairs.lay(m, e, draw(affairs.facts.things));
            }
        }
    }

    /** A market, all that was so and the sentence, kept for later. */
    private static final class Image {
        final Facts facts = new Facts();
        final Affairs affairs = new Affairs(facts);
        final Sentence claim = new Sentence();
        boolean kept = false;

        void keep(Facts itsFacts, Affairs itsAffairs, Sentence itsClaim) {
            facts.copy(itsFacts);
            affairs.copy(itsAffairs);
            claim.copy(itsClaim);
            kept = true;
        }
    }
}
