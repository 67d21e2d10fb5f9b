import java.util.function.IntToLongFunction;

/** All that can be seen of an object, as a text, so that two of them can be compared. */
final class Dump {
    private Dump() {
    }

    /** Of two that are unlike the first line that is tells enough. */
    static void same(String what, String want, String got) {
        String[] due = want.split("\n");
        String[] told = got.split("\n");
        for (int i = 0; i < Math.min(due.length, told.length); i++) {
            if (!due[i].equals(told[i])) {
                Due.same(what + ", line " + i, due[i], told[i]);
                return;
            }
        }
        Due.is(what + ", lines", due.length, told.length);
    }

    /** By calls that change nothing, and few of them: an object is used for 512 in all. */
    static String of(DreamTests x) {
        StringBuilder text = new StringBuilder();
        for (int what = 0; what <= 9; what++) {
            put(text, "count", x.count(what));
        }
        put(text, "fault", x.fault());
        ofBook(x, text);
        ofNight(x, text);
        ofRules(x, text);
        put(text, "leads", x.leads());
        put(text, "worth", x::worth);
        put(text, "said", x.said(-1));
        for (int what = 0; what <= 2; what++) {
            put(text, "judged", x.judged(what));
        }
        return text.append(Due.madeText(x)).append('\n').toString();
    }

    private static void ofBook(DreamTests x, StringBuilder text) {
        int tests = x.count(0);
        for (int test = 0; test < tests; test++) {
            put(text, "room", x.test(test, 0));
            put(text, "dream", x.test(test, 1));
            put(text, "asked", x.test(test, 2));
        }
        int dreams = x.count(1);
        for (int dream = 0; dream < dreams; dream++) {
            put(text, "weight", x.dream(dream, 0));
            put(text, "keeps", x.dream(dream, 1));
        }
    }

    private static void ofNight(DreamTests x, StringBuilder text) {
        int answers = x.count(8);
        for (int i = 0; i < answers; i++) {
            put(text, "answer", x.answer(i));
        }
        put(text, "sure", x::sure);
    }

    private static void ofRules(DreamTests x, StringBuilder text) {
        put(text, "up", x.up());
        put(text, "likely", x.likely());
        put(text, "fits", x.fits());
        put(text, "next", x.next());
        put(text, "stays", x.stays(0, 0));
        put(text, "enough", x.enough());
        put(text, "forger", x.forger());
        put(text, "pair", x.pair());
        put(text, "first", x.first(2));
        put(text, "cost", w -> x.cost(2, w));
        put(text, "lot", x::lot);
    }

    /** The object is used up: what can be undone, what is kept in its two places, what is on its tape. */
    static String ofAll(DreamTests x) {
        StringBuilder text = new StringBuilder(of(x));
        int left = 0;
        for (int i = 0; i < 9 && left >= 0; i++) {
            left = x.undo();
            put(text, "undo", left);
            ofNight(x, text);
        }
        for (int k = 0; k <= 1; k++) {
            put(text, "restore", x.restore(k) ? 1 : 0);
            text.append(of(x));
        }
        put(text, "the tape", x.sentence());
        put(text, "its FAULT", x.fault());
        put(text, "as said", x.said(-1));
        return text.toString();
    }

    private static void put(StringBuilder text, String what, long told) {
        text.append(what).append(' ').append(told).append('\n');
    }

    private static void put(StringBuilder text, String what, IntToLongFunction call) {
        text.append(what).append(' ').append(Due.fraction(call)).append('\n');
    }
}
