/** Promises 38 and 39: sentence, said. */
public final class SentenceTest {
    // tale: open 5, feud: 4, song: 1, void: 0.
    private static final String TEXT = "kind love;kind debt;kind war;man ann 50;man bob 30;thing tale ann love 3 debt 2;"
            + "thing feud bob war 4;thing song bob love 1;thing void ann;ending kiss ann 1 love 3;ending peace bob 2 war 1;";

    public static void main(String[] args) {
        said();
        joined();
        asNow();
        faults();
        within();
        lengths();
        aFaultChangesNothing();
        Check.finish();
    }

    private static void said(EndingMarket x, String text, int ones, int... things) {
        Check.due(text, Check.sentence(x, text), ones);
        Check.due("fault of " + text, x.fault(), 0);
        Check.due("tape behind " + text, x.count(5), 0);
        due(x, text, things);
    }

    private static void due(EndingMarket x, String text, int... things) {
        Check.due("how many: " + text, x.said(-1), things.length);
        for (int k = 0; k < things.length; k++) {
            Check.due("said " + k + ": " + text, x.said(k), things[k]);
        }
        Check.due("none such: " + text, x.said(things.length), -1);
        Check.due("none such: " + text, x.said(-2), -1);
    }

    private static void said() {
        EndingMarket x = Check.of(TEXT);
        Check.due("no sentence", x.said(-1), -1);
        Check.due("no sentence", x.said(0), -1);
        said(x, "ended", 1, 3);
        said(x, "of ann", 1, 0, 3);
        said(x, "has love", 1, 0, 2);
        said(x, "has war", 1, 1);
        said(x, "fits kiss", 1, 0, 2);
        said(x, "open<4", 1, 2, 3);
        said(x, "open=4", 1, 1);
        said(x, "open > 0", 1, 0, 1, 2);
        said(x, "open > 999", 1);
        said(x, "pages = 0", 1, 0, 1, 2, 3);
        said(x, "number > 1", 1, 2, 3);
        said(x, "number < 002", 1, 0, 1);
        said(x, "number = 0", 1, 0);
    }

    private static void joined() {
        EndingMarket x = Check.of(TEXT);
        said(x, "not ended", 2, 0, 1, 2);
        said(x, "not not ended", 3, 3);
        said(x, "of ann and has love", 2, 0);
        said(x, "of ann or has love", 2, 0, 2, 3);
        said(x, "ended or of bob and has war", 3, 1, 3);
        said(x, "of bob and has war or ended", 3, 1, 3);
        said(x, "of bob and (has war or ended)", 4, 1);
        said(x, "not of bob and has love", 3, 0);
        said(x, "not(of bob and has love)", 4, 0, 1, 3);
        said(x, "ended or has war or has debt", 3, 0, 1, 3);
        said(x, "number>0 and number<3 and has love", 3, 2);
        said(x, "ended and of bob or of ann and not ended or number=2", 6, 0, 2);
        said(x, "((ended))", 3, 3);
        said(x, "(ended or has war)and(of ann or of bob)or number=0", 7, 0, 1, 3);
    }

    private static void asNow() {
        EndingMarket x = Check.of(TEXT);
        said(x, "fits kiss or pages > 0 and ended", 3, 0, 2);
        x.put(0, 0, 0);
        due(x, "kiss is put");
        x.put(1, 1, 1);
        Check.sentence(x, "pages = 1");
        due(x, "pages = 1", 0, 1);
        Check.sentence(x, "has love");
        due(x, "has love", 2);
        x.undo();
        x.undo();
        due(x, "has love, undone", 0, 2);
        Check.market(x, "man m 1;thing t m;");
        Check.due("a new market has none", x.said(-1), -1);
        said(x, "ended", 1, 0);
        Check.market(x, "");
        said(x, "ended", 1);
    }

    private static void faults() {
        EndingMarket x = Check.of(TEXT);
        Check.sentenceFault(x, "", 0, 1);
        Check.sentenceFault(x, "  ", 2, 1);
        Check.sentenceFault(x, "not", 3, 1);
        Check.sentenceFault(x, "ann", 0, 1);
        Check.sentenceFault(x, "and", 0, 1);
        Check.sentenceFault(x, "day", 0, 1);
        Check.sentenceFault(x, "5", 0, 1);
        Check.sentenceFault(x, ")", 0, 1);
        Check.sentenceFault(x, "ended;", 5, 1);
        Check.sentenceFault(x, "ended)", 5, 1);
        Check.sentenceFault(x, "ended ended", 6, 1);
        Check.sentenceFault(x, "ended not ended", 6, 1);
        Check.sentenceFault(x, "ended and", 9, 1);
        Check.sentenceFault(x, "ended and or ended", 10, 1);
        Check.sentenceFault(x, "(ended", 6, 1);
        Check.sentenceFault(x, "(ended or", 9, 1);
        Check.sentenceFault(x, "()", 1, 1);
        Check.sentenceFault(x, "of", 2, 1);
        Check.sentenceFault(x, "of of", 3, 1);
        Check.sentenceFault(x, "of 1", 3, 1);
        Check.sentenceFault(x, "of eve", 3, 3);
        Check.sentenceFault(x, "of love", 3, 3);
        Check.sentenceFault(x, "has ann", 4, 3);
        Check.sentenceFault(x, "has hate", 4, 3);
        Check.sentenceFault(x, "fits tale", 5, 3);
        Check.sentenceFault(x, "fits none", 5, 3);
        Check.sentenceFault(x, "open 3", 5, 1);
        Check.sentenceFault(x, "open <", 6, 1);
        Check.sentenceFault(x, "open < love", 7, 1);
        Check.sentenceFault(x, "open <= 3", 6, 1);
        Check.sentenceFault(x, "open ; 3", 5, 1);
        Check.sentenceFault(x, "open < 1000", 7, 1);
        Check.sentenceFault(x, "open (3)", 5, 1);
        Check.sentenceFault(x, "ended ! of eve", 6, 1);
    }

    private static void within() {
        EndingMarket x = Check.of(TEXT);
        said(x, Check.times(7, "not ") + "ended", 8, 0, 1, 2);
        said(x, Check.times(7, "(") + "ended" + Check.times(7, ")"), 8, 3);
        Check.sentenceFault(x, Check.times(8, "not ") + "ended", 32, 4);
        Check.sentenceFault(x, Check.times(8, "(") + "ended", 8, 4);
        Check.sentenceFault(x, Check.times(8, "(") + "(", 8, 4);
        Check.sentenceFault(x, Check.times(8, "(") + "ann", 8, 1);
        Check.sentenceFault(x, "ended and (not (not (not ended", 30, 1);
        Check.sentenceFault(x, "ended and (not (not (not (ended", 31, 1);
        Check.sentenceFault(x, "ended and (not (not (not (not ended", 30, 4);
        said(x, "(((((((ended and ended)))))))or has war", 10, 1, 3);
        String twenty = "ended" + Check.times(19, " or ended");
        said(x, twenty, 20, 3);
        Check.sentenceFault(x, twenty + " or ended", 180, 4);
        Check.sentenceFault(x, twenty + " or ann", 180, 1);
        Check.sentenceFault(x, twenty + " or", 179, 1);
        said(x, "ended" + Check.times(19, " and ended"), 20, 3);
        said(x, Check.times(6, "(not ended)or ") + "not ended", 20, 0, 1, 2);
        Check.sentenceFault(x, Check.times(6, "(not ended)or ") + "not(ended)", 88, 4);
    }

    private static void lengths() {
        EndingMarket x = Check.of(TEXT);
        said(x, "ended" + Check.times(195, " "), 1, 3);
        Check.sentenceFault(x, "ended" + Check.times(196, " "), 200, 1);
        Check.sentenceFault(x, "not" + Check.times(196, " ") + "ended", 200, 1);
        Check.sentenceFault(x, "of" + Check.times(197, " ") + "eve", 199, 3);
        Check.sentenceFault(x, "of" + Check.times(198, " ") + "eve", 200, 1);
        Check.sentenceFault(x, "of of" + Check.times(198, " ") + "eve", 3, 1);
        // What was cut off the tape is no part of its last token.
        Check.feed(x, "number < 12");
        x.end(10);
        Check.due("cut", x.sentence(), 1);
        due(x, "number < 1", 0);
        Check.feed(x, "of annx");
        x.end(6);
        Check.due("cut", x.sentence(), 1);
        due(x, "of ann", 0, 3);
    }

    private static void aFaultChangesNothing() {
        EndingMarket x = Check.of(TEXT);
        said(x, "has war", 1, 1);
        Check.sentenceFault(x, "ended or of eve", 12, 3);
        due(x, "has war stays", 1);
        Check.due("undo", x.undo(), -1);
    }
}
