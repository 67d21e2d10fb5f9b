/** Promises 9 to 17, 29, 32, 35, 39 and 40: this NIGHT, how SURE one is in it, and NIGHTS DRAWN. */
public final class NightTest {
    private static final String BOOK = "test x 9 0;test y 8 2;test z 5 5;dream k 2 x;dream l 1;room 3;late 2;wrong 3;";

    private NightTest() {
    }

    public static void main(String[] args) {
        fedByHand();
        ask();
        nowhere();
        sleepAndAnswer();
        undo();
        undoDrawn();
        sure();
        odds();
        up();
        likely();
        fits();
        after();
        next();
        tells();
        drawn();
        drawnLearns();
        wrongs();
        Due.done("NightTest");
    }

    private static void fedByHand() {
        DreamTests x = new DreamTests();
        x.feed(0x74657374, 0x20612039, 0x20303b64, 0x7265616d, 0x206b2031);
        x.feed(0x3b000000, 0, 0, 0, 0);
        x.end(21);
        Due.is("fed by hand: book()", 2, x.book());
        Due.is("fed by hand: ask(0, 1)", 1, x.ask(0, 1));
        Due.same("fed by hand: sure", "1/1", Due.fraction(x::sure));
    }

    private static void ask() {
        DreamTests x = Due.withBook(BOOK);
        Due.is("ask(3, 1)", -1, x.ask(3, 1));
        Due.is("ask(-1, 1)", -1, x.ask(-1, 1));
        Due.is("ask(0, 2)", -1, x.ask(0, 2));
        Due.is("ask(0, -1)", -1, x.ask(0, -1));
        Due.is("nothing was asked", 0, x.count(8));
        for (int i = 1; i <= 12; i++) {
            Due.is("ask " + i, i, x.ask(2, i & 1));
        }
        Due.is("a 13th", -1, x.ask(2, 1));
        Due.is("12 stand", 12, x.count(8));
    }

    private static void nowhere() {
        DreamTests x = Due.withBook("test a 9 9;test b 9 0;test c 0 9;test d 0 9;dream k 1;");
        Due.is("a never MOVES", -1, x.ask(0, 0));
        Due.is("a STAYS", 1, x.ask(0, 1));
        Due.is("b MOVES: a dream", 2, x.ask(1, 0));
        Due.is("b STAYS: only in the room", -1, x.ask(1, 1));
        Due.is("c MOVES: only in the room", -1, x.ask(2, 0));
        Due.is("c STAYS", 3, x.ask(2, 1));
        Due.is("what could not be is not kept", 3, x.count(8));
        DreamTests y = Due.withBook("test a 5 5;dream k 1;tired 2;");
        Due.is("not tired yet", 1, y.ask(0, 0));
        Due.is("tired: it can't MOVE", -1, y.ask(0, 0));
        Due.is("tired: it STAYS", 2, y.ask(0, 1));
    }

    private static void sleepAndAnswer() {
        DreamTests x = Due.withBook(BOOK);
        Due.is("answer(0) of none", -1, x.answer(0));
        x.ask(1, 0);
        x.ask(0, 1);
        x.ask(2, 1);
        Due.is("answer(0)", 2, x.answer(0));
        Due.is("answer(1)", 1, x.answer(1));
        Due.is("answer(2)", 5, x.answer(2));
        Due.is("answer(3)", -1, x.answer(3));
        Due.is("answer(-1)", -1, x.answer(-1));
        Due.is("sleep()", 3, x.sleep());
        Due.is("a new NIGHT", 0, x.count(8));
        Due.is("answer(0) now", -1, x.answer(0));
        Due.is("x was not asked", 0, x.test(0, 2));
        Due.same("SURE as at first", "1/2", Due.fraction(x::sure));
        Due.is("sleep() again", 0, x.sleep());
    }

    private static void undo() {
        DreamTests x = Due.withBook(BOOK);
        Due.is("undo() at first", -1, x.undo());
        x.ask(0, 7);
        Due.is("undo() behind what was not done", -1, x.undo());
        for (int i = 0; i < 10; i++) {
            x.ask(2, i & 1);
        }
        for (int left = 7; left >= 0; left--) {
            Due.is("undo() to " + left, left, x.undo());
            Due.is("answers with " + left, 2 + left, x.count(8));
        }
        Due.is("no ninth undo()", -1, x.undo());
        Due.is("two stand", 2, x.count(8));
        Due.is("answer(1) stands", 5, x.answer(1));
        Due.is("asked twice", 2, x.test(2, 2));

        DreamTests full = Due.withBook(BOOK);
        for (int i = 0; i < 11; i++) {
            full.ask(2, 0);
        }
        full.ask(1, 1);
        int seed = 0;
        full.drawn(12, seed);
        while (full.answer(11) == 3) {
            full.undo();
            seed++;
            full.drawn(12, seed);
        }
        full.undo();
        Due.is("all 12 again", 12, full.count(8));
        Due.is("the last of them", 3, full.answer(11));

        DreamTests y = Due.withBook(BOOK);
        y.ask(1, 1);
        y.ask(0, 0);
        String odds = Due.fraction(y::sure) + Due.fraction(w -> y.odds(1, w));
        y.sleep();
        y.ask(2, 0);
        Due.is("undo() of ask()", 3, y.undo());
        Due.is("behind sleep()", 0, y.count(8));
        Due.is("undo() of sleep()", 2, y.undo());
        Due.is("as ahead of sleep()", 2, y.count(8));
        Due.is("answer(1) again", 0, y.answer(1));
        Due.same("SURE as ahead of sleep()", odds, Due.fraction(y::sure) + Due.fraction(w -> y.odds(1, w)));
        Due.is("undo() again", 1, y.undo());
        Due.is("one answer", 1, y.count(8));
        Due.same("SURE behind one", "4/5", Due.fraction(y::sure));
        Due.is("undo() of the first", 0, y.undo());
        Due.is("nothing left", -1, y.undo());
    }

    private static void undoDrawn() {
        DreamTests x = Due.withBook(BOOK);
        x.ask(1, 1);
        x.drawn(5, 3);
        Due.is("drawn", 5, x.count(8));
        x.drawn(-1, 3);
        x.wrongs(3, 3, 3);
        Due.is("undo() of drawn()", 1, x.undo());
        Due.is("as ahead of it", 1, x.count(8));
        Due.is("its answer", 3, x.answer(0));
    }

    private static void sure() {
        DreamTests x = Due.withBook(BOOK);
        Due.same("at first", "1/2", Due.fraction(x::sure));
        x.ask(1, 1);
        Due.same("y STAYED: 24 by 24 and 6", "4/5", Due.fraction(x::sure));
        x.ask(1, 0);
        Due.same("y MOVED: 24 by 24 and 42", "4/11", Due.fraction(x::sure));
        x.ask(0, 0);
        Due.same("x MOVED", "0/1", Due.fraction(x::sure));
        Due.isThrown("sure(2)", () -> x.sure(2));
        Due.isThrown("sure(-1)", () -> x.sure(-1));
        DreamTests y = Due.withBook("test a 9 4;dream k 1;learn;");
        y.ask(0, 1);
        Due.same("ahead of learning", "9/13", Due.fraction(y::sure));
        y.ask(0, 1);
        Due.same("one that learns tells no more", "9/13", Due.fraction(y::sure));
        DreamTests z = Due.withBook("test a 9 4;dream k 1;tired 2;");
        z.ask(0, 1);
        z.ask(0, 1);
        Due.same("one that is tired tells no more", "9/13", Due.fraction(z::sure));
        DreamTests big = Due.withBook("test a 9 8;dream k 19;room 20;");
        for (int i = 0; i < 12; i++) {
            big.ask(0, 1);
        }
        // 20 * 9^12 by that and 19 * 8^12
        Due.same("the greatest numbers", "1412147682405/1738565196901", Due.fraction(big::sure));
    }

    private static void odds() {
        DreamTests x = Due.withBook(BOOK);
        Due.same("k at first", "1/3", Due.fraction(w -> x.odds(0, w)));
        Due.same("l at first", "1/6", Due.fraction(w -> x.odds(1, w)));
        x.ask(0, 1);
        Due.same("k behind x", "2/5", Due.fraction(w -> x.odds(0, w)));
        Due.same("l behind x", "0/1", Due.fraction(w -> x.odds(1, w)));
        Due.isThrown("odds(2, 0)", () -> x.odds(2, 0));
        Due.isThrown("odds(-1, 0)", () -> x.odds(-1, 0));
        Due.isThrown("odds(0, 2)", () -> x.odds(0, 2));
        Due.isThrown("odds(0, -1)", () -> x.odds(0, -1));
    }

    private static void up() {
        DreamTests x = Due.withBook(BOOK);
        Due.is("3 * 3 is above 2 * 3", 0, x.up());
        x.ask(1, 1);
        Due.is("3 * 6 is below 2 * 24", 1, x.up());
        Due.is("no worse", 1, Due.withBook("dream k 2;room 3;late 2;wrong 3;").up());
        Due.is("worse by one", 0, Due.withBook("dream k 3;room 4;late 2;wrong 3;").up());
        Due.is("no cost at all", 1, Due.withBook("dream k 20;late 0;wrong 0;").up());
        Due.is("late costs nothing", 0, Due.withBook("dream k 1;room 20;late 0;").up());
    }

    private static void likely() {
        DreamTests x = Due.withBook(BOOK);
        Due.is("the room at first", -1, x.likely());
        x.ask(1, 0);
        Due.is("k behind y", 0, x.likely());
        x.ask(0, 0);
        Due.is("l behind x", 1, x.likely());
        Due.is("like the room", -1, Due.withBook("dream k 2;room 2;").likely());
        Due.is("of like ones the first", 1, Due.withBook("dream k 2;dream l 3;dream m 3;room 2;").likely());
        Due.is("no DREAMS", -1, new DreamTests().likely());
    }

    private static void fits() {
        DreamTests x = Due.withBook(BOOK);
        Due.is("all at first", 7, x.fits());
        x.ask(0, 1);
        Due.is("x STAYED: room and k", 3, x.fits());
        x.sleep();
        x.ask(0, 0);
        Due.is("x MOVED: l", 4, x.fits());
        Due.is("the room alone", 1, new DreamTests().fits());
    }

    private static void after() {
        DreamTests x = Due.withBook(BOOK);
        x.ask(1, 1);
        x.ask(1, 0);
        Due.same("after(0)", "1/2", Due.fraction(w -> x.after(0, w)));
        Due.same("after(1)", "4/5", Due.fraction(w -> x.after(1, w)));
        Due.same("after(2)", "4/11", Due.fraction(w -> x.after(2, w)));
        Due.isThrown("after(3, 0)", () -> x.after(3, 0));
        Due.isThrown("after(-1, 0)", () -> x.after(-1, 0));
        Due.isThrown("after(0, 2)", () -> x.after(0, 2));
        Due.is("this NIGHT stands", 2, x.count(8));
        DreamTests y = Due.withBook("test a 9 4;dream k 1;learn;");
        y.ask(0, 1);
        y.ask(0, 1);
        Due.same("after(2), learnt", "9/13", Due.fraction(w -> y.after(2, w)));
    }

    private static void next() {
        DreamTests x = Due.withBook(BOOK);
        Due.is("y tells most", 1, x.next());
        Due.is("no TESTS", -1, Due.withBook("dream k 1;").next());
        Due.is("of like ones the first", 1, Due.withBook("test a 5 5;test b 9 0;test c 0 9;dream k 1;").next());
        DreamTests y = Due.withBook("test a 9 0;test b 8 1;dream k 1;learn;");
        Due.is("a at first", 0, y.next());
        y.ask(0, 1);
        Due.is("all is known", 0, y.next());
        DreamTests z = Due.withBook("test a 9 2;test b 8 2;dream k 1;learn;");
        Due.is("a tells most at first", 0, z.next());
        z.ask(0, 1);
        Due.is("a was learnt", 1, z.next());
        DreamTests t = Due.withBook("test a 5 5;test b 7 3;dream k 1;tired 1;");
        Due.is("tired: all alike", 0, t.next());
        for (int i = 0; i < 12; i++) {
            Due.is("one is left", 0, t.next());
            t.ask(0, 1);
        }
        Due.is("12 were asked", -1, t.next());
    }

    private static void tells() {
        DreamTests x = Due.withBook(BOOK);
        Due.same("x at first", "5/6", Due.fraction(w -> x.tells(0, w)));
        Due.same("z at first", "5/9", Due.fraction(w -> x.tells(2, w)));
        x.ask(0, 0);
        Due.same("x in l", "0/1", Due.fraction(w -> x.tells(0, w)));
        Due.same("y in l", "2/9", Due.fraction(w -> x.tells(1, w)));
        Due.isThrown("tells(3, 0)", () -> x.tells(3, 0));
        Due.isThrown("tells(-1, 0)", () -> x.tells(-1, 0));
        Due.isThrown("tells(0, 2)", () -> x.tells(0, 2));
        Due.isThrown("tells(0, -1)", () -> x.tells(0, -1));
        DreamTests y = Due.withBook("test a 8 2;dream k 1;learn;tired 3;");
        y.ask(0, 0);
        Due.same("learnt", "8/9", Due.fraction(w -> y.tells(0, w)));
        y.ask(0, 0);
        Due.same("tired", "1/1", Due.fraction(w -> y.tells(0, w)));
    }

    private static void drawn() {
        DreamTests x = Due.withBook(BOOK);
        x.ask(0, 1);
        Due.is("drawn(0, 1)", 0, x.drawn(0, 1));
        Due.is("no answers", 0, x.count(8));
        Due.is("drawn(13, 1)", -1, x.drawn(13, 1));
        Due.is("drawn(-1, 1)", -1, x.drawn(-1, 1));
        Due.is("undo()", 1, x.undo());
        Due.is("drawn(12, -1)", drawnByHand(x, -1, 12), x.drawn(12, -1));
        Due.is("12 answers", 12, x.count(8));
        for (int seed = -40; seed < 40; seed++) {
            int where = drawnByHand(x, seed * 99991, 4);
            Due.is("drawn by " + seed, where, x.drawn(4, seed * 99991));
            Due.is("it can be there", 1, x.fits() >> where & 1);
        }
        DreamTests one = Due.withBook("test a 9 0;");
        Due.is("one TEST", 0, one.drawn(2, 5));
        Due.is("it STAYS", 1, one.answer(1));
        Due.is("nowhere to draw", -1, Due.withBook("dream k 1;").drawn(1, 1));
        Due.is("no TESTS needed", drawnByHand(1, 1, 0, 7), Due.withBook("dream k 1;").drawn(0, 7));
    }

    private static int drawnByHand(DreamTests x, int seed, int n) {
        return drawnByHand(x.count(2), x.dream(0, 0), x.dream(1, 0), seed);
    }

    private static int drawnByHand(int room, int first, int second, int seed) {
        int drawn = (seed * 1103515245 + 12345 >>> 8) % (room + first + second);
        return drawn < room ? 0 : drawn < room + first ? 1 : 2;
    }

    /** The answers too, by the draws as the document tells them. */
    private static void drawnLearns() {
        DreamTests x = Due.withBook("test a 8 1;test b 6 3;test c 2 7;dream k 3 b;dream l 2 a c;room 2;learn;tired 6;");
        int[] rooms = {8, 6, 2};
        int[] dreamings = {1, 3, 7};
        int[] keeps = {0, 2, 5};
        for (int seed = 0; seed < 50; seed++) {
            int s = seed * 1103515245 + 12345;
            int drawn = (s >>> 8) % 7;
            int where = drawn < 2 ? 0 : drawn < 5 ? 1 : 2;
            Due.is("where by " + seed, where, x.drawn(8, seed));
            int asked = 0;
            for (int i = 0; i < 8; i++) {
                s = s * 1103515245 + 12345;
                int test = (s >>> 8) % 3;
                s = s * 1103515245 + 12345;
                boolean asRoom = where == 0 || (asked >> test & 1) == 1 || (keeps[where] >> test & 1) == 1;
                int odds = i >= 5 ? 9 : asRoom ? rooms[test] : dreamings[test];
                int stays = (s >>> 8) % 9 < odds ? 1 : 0;
                Due.is("answer " + i + " by " + seed, 2 * test + stays, x.answer(i));
                asked |= 1 << test;
            }
        }
    }

    private static void wrongs() {
        DreamTests x = Due.withBook(BOOK);
        x.ask(0, 1);
        for (int n = 0; n <= 12; n++) {
            for (int seed = -3; seed < 3; seed++) {
                Due.is("wrongs(60, " + n + ", " + seed + ")", wrongsByHand(n, seed), x.wrongs(60, n, seed));
            }
        }
        Due.is("wrongs over the greatest seed", wrongsByHand(2, Integer.MAX_VALUE - 20),
            x.wrongs(60, 2, Integer.MAX_VALUE - 20));
        Due.is("one NIGHT in the room", 1, wrongsOfOne(0));
        Due.is("one NIGHT in a dream", 0, wrongsOfOne(1));
        Due.is("wrongs(0, 1, 1)", -1, x.wrongs(0, 1, 1));
        Due.is("wrongs(-1, 1, 1)", -1, x.wrongs(-1, 1, 1));
        Due.is("wrongs(61, 1, 1)", -1, x.wrongs(61, 1, 1));
        Due.is("wrongs(1, 13, 1)", -1, x.wrongs(1, 13, 1));
        Due.is("wrongs(1, -1, 1)", -1, x.wrongs(1, -1, 1));
        Due.is("no TESTS", -1, Due.withBook("dream k 1;").wrongs(1, 1, 1));
        Due.is("this NIGHT stands", 1, x.count(8));
        Due.is("its answer too", 1, x.answer(0));
        Due.is("undo() of the one ask()", 0, x.undo());
    }

    /** A NIGHT without TESTS, by a seed that leads there: by the BOOK one stays in bed then. */
    private static int wrongsOfOne(int place) {
        DreamTests y = Due.withBook("dream k 1;wrong 2;");
        int seed = 0;
        while (drawnByHand(1, 1, 0, seed) != place) {
            seed++;
        }
        return y.wrongs(1, 0, seed);
    }

    private static int wrongsByHand(int n, int seed) {
        DreamTests y = Due.withBook(BOOK);
        int wrong = 0;
        for (int i = 0; i < 60; i++) {
            boolean room = y.drawn(n, seed + i) == 0;
            if (room != (y.up() == 1)) {
                wrong++;
            }
        }
        return wrong;
    }
}
