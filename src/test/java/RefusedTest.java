import java.util.NoSuchElementException;

/** What a refused call, and one that only tells, leaves as it was: all that can be seen of the object. */
public final class RefusedTest {
    private static final String FIRST = "test p 9 0;dream q 3 p;room 4;";
    private static final String BOOK = "test x 9 0;test y 8 2;test z 5 5;dream k 2 x;dream l 1;room 3;late 2;wrong 3;";
    private static final String ON_THE_TAPE = "good or asked";
    private static final int LEAST = Integer.MIN_VALUE;
    private static final int GREATEST = Integer.MAX_VALUE;

    interface Act {
        long on(DreamTests x);
    }

    private RefusedTest() {
    }

    public static void main(String[] args) {
        ofTheBook();
        ofTheNight();
        throwing();
        ofCosts();
        drawn();
        images();
        feed();
        end();
        undoOfNothing();
        fullNight();
        faultyTexts();
        tellingChangesNothing();
        Due.done("RefusedTest");
    }

    /** One that has everything: a NIGHT, acts to undo, a TREE, a SENTENCE, a text made, NIGHTS judged, an image. */
    private static DreamTests full() {
        DreamTests x = Due.withBook(FIRST);
        x.ask(0, 1);
        Due.put(x, "p(up;bed)").tree();
        x.image(0);
        Due.put(x, BOOK).book();
        x.drawn(3, 5);
        x.sleep();
        x.ask(1, 1);
        x.ask(2, 0);
        Due.put(x, "y(z(up;x(up;bed));bed)").tree();
        Due.put(x, "in k;y stays;z moves;x moves;").nights();
        Due.put(x, "asked or good").sentence();
        x.write(2);
        return Due.put(x, ON_THE_TAPE);
    }

    private static void leavesAll(String what, Act act) {
        DreamTests x = full();
        act.on(x);
        Dump.same("behind " + what, Dump.ofAll(full()), Dump.ofAll(x));
    }

    private static void refused(String what, Act act) {
        Due.is(what, -1, act.on(full()));
        leavesAll(what, act);
    }

    private static void thrown(String what, Act act) {
        DreamTests x = full();
        Due.isThrown(what, () -> act.on(x));
        Dump.same("behind " + what, Dump.ofAll(full()), Dump.ofAll(x));
    }

    private static void ofTheBook() {
        int[] noTest = {-1, 3, 8, LEAST, GREATEST};
        int[] noDream = {-1, 2, 6, LEAST, GREATEST};
        for (int i : noTest) {
            refused("test(" + i + ", 0)", x -> x.test(i, 0));
            refused("test(" + i + ", 2)", x -> x.test(i, 2));
            refused("test(" + i + ", 3)", x -> x.test(i, 3));
            refused("stays(" + i + ", 0)", x -> x.stays(i, 0));
            refused("stays(" + i + ", -1)", x -> x.stays(i, -1));
        }
        for (int i : noDream) {
            refused("dream(" + i + ", 0)", x -> x.dream(i, 0));
            refused("dream(" + i + ", 1)", x -> x.dream(i, 1));
            refused("apart(" + i + ", 0)", x -> x.apart(i, 0));
            refused("apart(1, " + i + ")", x -> x.apart(1, i));
            if (i != -1) {
                refused("stays(2, " + i + ")", x -> x.stays(2, i));
            }
        }
        int[] noWhat = {-1, 4, LEAST, GREATEST};
        for (int what : noWhat) {
            refused("test(2, " + what + ")", x -> x.test(2, what));
            refused("dream(1, " + what + ")", x -> x.dream(1, what));
            refused("judged(" + what + ")", x -> x.judged(what));
        }
        refused("dream(1, 2)", x -> x.dream(1, 2));
        refused("judged(3)", x -> x.judged(3));
        refused("count(10)", x -> x.count(10));
        refused("count(-1)", x -> x.count(-1));
        refused("count(least)", x -> x.count(LEAST));
        refused("count(greatest)", x -> x.count(GREATEST));
    }

    private static void ofTheNight() {
        int[] noTest = {-1, 3, 8, LEAST, GREATEST};
        for (int i : noTest) {
            refused("ask(" + i + ", 0)", x -> x.ask(i, 0));
            refused("ask(" + i + ", 1)", x -> x.ask(i, 1));
        }
        int[] noAnswer = {-1, 2, LEAST, GREATEST};
        for (int i : noAnswer) {
            refused("ask(2, " + i + ")", x -> x.ask(2, i));
            refused("answer(" + i + ")", x -> x.answer(i));
        }
        refused("answer(12)", x -> x.answer(12));
        // Where it MOVES can only be l: there it can't STAY
        DreamTests nowhere = full();
        nowhere.ask(0, 0);
        DreamTests same = full();
        same.ask(0, 0);
        Due.is("ask(), nowhere", -1, nowhere.ask(0, 1));
        Dump.same("behind ask(), nowhere", Dump.ofAll(same), Dump.ofAll(nowhere));
        int[] noByte = {-1, 26, 940, LEAST, GREATEST};
        for (int i : noByte) {
            refused("byteAt(" + i + ")", x -> x.byteAt(i));
        }
        int[] noPlace = {-2, 3, 8, LEAST, GREATEST};
        for (int k : noPlace) {
            refused("said(" + k + ")", x -> x.said(k));
        }
    }

    private static void throwing() {
        int[] noSide = {-1, 2, LEAST, GREATEST};
        for (int what : noSide) {
            thrown("sure(" + what + ")", x -> x.sure(what));
            thrown("odds(1, " + what + ")", x -> x.odds(1, what));
            thrown("error(7, " + what + ")", x -> x.error(7, what));
            thrown("cost(4, " + what + ")", x -> x.cost(4, what));
            thrown("worth(" + what + ")", x -> x.worth(what));
            thrown("after(2, " + what + ")", x -> x.after(2, what));
            thrown("lot(" + what + ")", x -> x.lot(what));
            thrown("share(2, " + what + ")", x -> x.share(2, what));
            thrown("fails(7, " + what + ")", x -> x.fails(7, what));
            thrown("deep(8, " + what + ")", x -> x.deep(8, what));
            thrown("tells(2, " + what + ")", x -> x.tells(2, what));
        }
        for (int what = 0; what <= 1; what++) {
            int side = what;
            int[] none = {-1, LEAST, GREATEST};
            for (int i : none) {
                thrown("odds(" + i + ")", x -> x.odds(i, side));
                thrown("error(" + i + ")", x -> x.error(i, side));
                thrown("cost(" + i + ")", x -> x.cost(i, side));
                thrown("after(" + i + ")", x -> x.after(i, side));
                thrown("share(" + i + ")", x -> x.share(i, side));
                thrown("fails(" + i + ")", x -> x.fails(i, side));
                thrown("deep(" + i + ")", x -> x.deep(i, side));
                thrown("tells(" + i + ")", x -> x.tells(i, side));
            }
            thrown("odds(2)", x -> x.odds(2, side));
            thrown("error(8)", x -> x.error(8, side));
            thrown("cost(5)", x -> x.cost(5, side));
            thrown("after(3)", x -> x.after(3, side));
            thrown("share(3)", x -> x.share(3, side));
            thrown("fails(8)", x -> x.fails(8, side));
            thrown("deep(9)", x -> x.deep(9, side));
            thrown("tells(3)", x -> x.tells(3, side));
        }
    }

    private static void ofCosts() {
        int[] none = {-1, 5, LEAST, GREATEST};
        for (int n : none) {
            refused("first(" + n + ")", x -> x.first(n));
            refused("write(" + n + ")", x -> x.write(n));
        }
    }

    private static void drawn() {
        int[] none = {-1, 13, LEAST, GREATEST};
        for (int n : none) {
            refused("drawn(" + n + ", 1)", x -> x.drawn(n, 1));
            refused("wrongs(1, " + n + ", 1)", x -> x.wrongs(1, n, 1));
        }
        int[] many = {-1, 0, 61, LEAST, GREATEST};
        for (int m : many) {
            refused("wrongs(" + m + ", 1, 1)", x -> x.wrongs(m, 1, 1));
        }
    }

    private static void images() {
        int[] none = {-1, 2, LEAST, GREATEST};
        for (int k : none) {
            Due.is("image(" + k + ")", false, full().image(k));
            leavesAll("image(" + k + ")", x -> x.image(k) ? 1 : 0);
            Due.is("restore(" + k + ")", false, full().restore(k));
            leavesAll("restore(" + k + ")", x -> x.restore(k) ? 1 : 0);
        }
        Due.is("restore(1), not kept", false, full().restore(1));
        leavesAll("restore(1), not kept", x -> x.restore(1) ? 1 : 0);
    }

    private static DreamTests withTape(int bytes) {
        DreamTests x = full();
        return Due.put(x, ON_THE_TAPE + " ".repeat(bytes - ON_THE_TAPE.length()));
    }

    private static void feed() {
        for (int bytes = 921; bytes <= 940; bytes++) {
            DreamTests x = withTape(bytes);
            Due.is("feed() on " + bytes, -1, x.feed(0, 0, 0, 0, 0));
            Dump.same("behind feed() on " + bytes, Dump.ofAll(withTape(bytes)), Dump.ofAll(x));
            // None came: behind what was there blanks go on
            DreamTests y = withTape(bytes);
            y.feed(0, 0, 0, 0, 0);
            y.end(180);
            y.feed(0x20202020, 0x20202020, 0x20202020, 0x20202020, 0x20202020);
            Due.is("the SENTENCE of 200 bytes", 2, y.sentence());
        }
        Due.is("feed() on 920", 940, withTape(920).feed(0, 0, 0, 0, 0));
    }

    private static void end() {
        int[] none = {-1, ON_THE_TAPE.length() + 1, 940, 941, LEAST, GREATEST};
        for (int n : none) {
            Due.is("end(" + n + ")", false, full().end(n));
            leavesAll("end(" + n + ")", x -> x.end(n) ? 1 : 0);
        }
        Due.is("end() of all", true, full().end(ON_THE_TAPE.length()));
        leavesAll("end() of all", x -> x.end(ON_THE_TAPE.length()) ? 1 : 0);
    }

    private static DreamTests withoutActs() {
        DreamTests x = full();
        while (x.undo() > 0) {
            x.count(8);
        }
        return x;
    }

    private static void undoOfNothing() {
        DreamTests x = withoutActs();
        Due.is("undo() of nothing", -1, x.undo());
        Dump.same("behind undo() of nothing", Dump.ofAll(withoutActs()), Dump.ofAll(x));
    }

    private static DreamTests withFullNight() {
        DreamTests x = full();
        for (int i = 3; i <= 12; i++) {
            Due.is("ask() " + i, i, x.ask(i == 12 ? 2 : i % 3, i == 12 ? 0 : 1));
        }
        return x;
    }

    private static void fullNight() {
        for (int test = 0; test < 3; test++) {
            for (int stays = 0; stays <= 1; stays++) {
                DreamTests x = withFullNight();
                Due.is("a 13th", -1, x.ask(test, stays));
                Dump.same("behind a 13th", Dump.ofAll(withFullNight()), Dump.ofAll(x));
            }
        }
        DreamTests x = withFullNight();
        Due.is("no next", -1, x.next());
        Due.isThrown("after(13)", () -> x.after(13, 0));
        Dump.same("behind them", Dump.ofAll(withFullNight()), Dump.ofAll(x));
    }

    /** With a FAULT all stays but the tape, which is empty then, and fault(). */
    private static void faultyTexts() {
        String[] texts = {".", "late 100;", "sure 4;", "learn;learn;", "test a 1 1;test a 1 1;", "up(", "in k;up", "in k;.",
            "x(x(up;up);up)", "good and", "not not not not not not not not good", "in k;" + "up;".repeat(40), "foo"};
        for (int sort = 0; sort < 4; sort++) {
            for (String text : texts) {
                DreamTests x = Due.put(full(), text);
                int first = sort == 1 ? -2 : -1;
                boolean faulty = read(x, sort) <= first && x.fault() > 0;
                if (!faulty) {
                    continue;
                }
                Due.is("the tape behind '" + text + "'", 0, x.count(9));
                int kind = x.fault();
                DreamTests same = faultyOfKind(kind);
                Dump.same("behind '" + text + "' of sort " + sort, Dump.ofAll(same), Dump.ofAll(x));
            }
        }
    }

    private static int read(DreamTests x, int sort) {
        return sort == 0 ? x.book() : sort == 1 ? x.nights() : sort == 2 ? x.tree() : x.sentence();
    }

    /** One that has everything behind a FAULT of this kind in another text. */
    private static DreamTests faultyOfKind(int kind) {
        DreamTests x = full();
        if (kind == 2) {
            Due.put(x, "sure 4;").book();
        } else {
            String[] texts = {"", "", "", "kept x", "not not not not not not not not not"};
            Due.put(x, texts[kind]).sentence();
        }
        Due.is("a FAULT of kind " + kind, kind, x.fault());
        return x;
    }

    private static long told(Act act, DreamTests x) {
        try {
            return act.on(x);
        } catch (NoSuchElementException e) {
            return -7;
        }
    }

    /** What only tells changes nothing, and tells the same when it is called again. */
    private static void tellingChangesNothing() {
        Act[] acts = {x -> x.fault(), x -> x.test(0, 2), x -> x.dream(1, 0), x -> x.stays(1, 0), x -> x.answer(1),
            x -> x.sure(0), x -> x.odds(0, 0), x -> x.up(), x -> x.likely(), x -> x.fits(), x -> x.enough(),
            x -> x.forger(), x -> x.error(7, 0), x -> x.pair(), x -> x.cost(4, 0), x -> x.first(4), x -> x.byteAt(3),
            x -> x.worth(0), x -> x.leads(), x -> x.after(1, 0), x -> x.after(2, 0), x -> x.lot(0), x -> x.share(1, 0),
            x -> x.next(), x -> x.fails(7, 0), x -> x.deep(8, 0), x -> x.tells(2, 0), x -> x.apart(0, 1),
            x -> x.judged(0), x -> x.wrongs(60, 12, 9), x -> x.said(0), x -> x.said(-1), x -> x.count(9)};
        for (int i = 0; i < acts.length; i++) {
            Act act = acts[i];
            leavesAll("telling act " + i, x -> told(act, x));
            DreamTests x = full();
            long first = told(act, x);
            for (int k = 0; k < acts.length; k++) {
                told(acts[k], x);
            }
            Due.is("telling act " + i + " again", first, told(act, x));
        }
    }
}
