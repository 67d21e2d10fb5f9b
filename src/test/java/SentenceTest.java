/** Promises 41 and 42 (and 5): SENTENCES, their FAULTS, and of which TESTS they may be said. */
public final class SentenceTest {
    private static final String BOOK = "test x 9 0;test y 8 2;test z 9 9;test v 9 0;test w 0 5;"
        + "dream k 2 x y;dream l 1 w;";

    private SentenceTest() {
    }

    public static void main(String[] args) {
        ones();
        unfit();
        names();
        tooMany();
        mostBytes();
        said();
        asked();
        precedence();
        noSuch();
        staysWithFault();
        Due.done("SentenceTest");
    }

    private static void has(String text, int ones) {
        DreamTests x = Due.withBook(BOOK);
        Due.is("sentence() of '" + text + "'", ones, Due.put(x, text).sentence());
        Due.is("fault() of SENTENCE '" + text + "'", 0, x.fault());
    }

    private static void faulty(String text, int kind, int place) {
        DreamTests x = Due.withBook(BOOK);
        Due.is("sentence() of '" + text + "'", -1 - place, Due.put(x, text).sentence());
        Due.is("fault() of SENTENCE '" + text + "'", kind, x.fault());
        Due.is("none yet, said(-1)", -1, x.said(-1));
    }

    private static void ones() {
        has("good", 1);
        has(" asked\n", 1);
        has("kept k", 1);
        has("rooms<9", 1);
        has("dreams = 99", 1);
        has("place > 0", 1);
        has("not good", 2);
        has("(good)", 2);
        has("not(good)", 3);
        has("not not not good", 4);
        has("good and asked or kept l", 3);
        has("(good or asked) and not (kept k and rooms < 3)", 7);
    }

    private static void unfit() {
        faulty("", 1, 0);
        faulty("  ", 1, 2);
        faulty("foo", 1, 0);
        faulty("x", 1, 0);
        faulty("or", 1, 0);
        faulty("test", 1, 0);
        faulty("7", 1, 0);
        faulty(")", 1, 0);
        faulty("good good", 1, 5);
        faulty("good;", 1, 4);
        faulty("good.", 1, 4);
        faulty("good or", 1, 7);
        faulty("good or or", 1, 8);
        faulty("good and )", 1, 9);
        faulty("not", 1, 3);
        faulty("not or", 1, 4);
        faulty("(good", 1, 5);
        faulty("(good or asked", 1, 14);
        faulty("good)", 1, 4);
        faulty("()", 1, 1);
        faulty("kept", 1, 4);
        faulty("kept room", 1, 5);
        faulty("kept 1", 1, 5);
        faulty("rooms", 1, 5);
        faulty("rooms 9", 1, 6);
        faulty("rooms < x", 1, 8);
        faulty("rooms < ", 1, 8);
        faulty("rooms <= 3", 1, 7);
        faulty("rooms ; 3", 1, 6);
        faulty("rooms < 100", 1, 8);
        faulty("room < 3", 1, 0);
        faulty("Good", 1, 0);
    }

    private static void names() {
        faulty("kept x", 3, 5);
        faulty("kept foo", 3, 5);
        faulty("good or kept m", 3, 13);
        faulty("kept good", 1, 5);
    }

    private static void tooMany() {
        String nineteen = "good or ".repeat(9) + "good and ".repeat(9) + "good ";
        has(nineteen + "or asked", 20);
        faulty(nineteen + "or not asked", 4, nineteen.length() + 7);
        faulty(nineteen + "or asked and ( x", 4, nineteen.length() + 13);
        faulty(nineteen + "or asked and kept x", 4, nineteen.length() + 13);
        faulty(nineteen + "or asked and x", 1, nineteen.length() + 13);
        faulty(nineteen + "and (asked)", 4, nineteen.length() + 5);
        has("((((((( good )))))))", 8);
        has("not not (not ((not good)))", 8);
        faulty("(((((((( good ))))))))", 4, 9);
        faulty("not not not not not not not not not", 4, 32);
        faulty("not not not not not not not not or", 1, 32);
        faulty("((((((( not good )))))))", 4, 12);
        has("((((((( good )))))))or((((((( good )))))))", 16);
    }

    private static void mostBytes() {
        has(" ".repeat(196) + "good", 1);
        has("good" + " ".repeat(196), 1);
        faulty("good" + " ".repeat(197), 1, 200);
        faulty(" ".repeat(200) + "good", 1, 200);
        faulty(" ".repeat(196) + "good or", 1, 200);
        faulty(" ".repeat(197) + "good", 1, 200);
        faulty(" ".repeat(198) + "goo", 1, 198);
        faulty(" ".repeat(194) + "kept   x", 1, 200);
        faulty(" ".repeat(194) + "kept xxxx", 3, 199);
    }

    private static void isSaid(DreamTests x, String text, int... tests) {
        Due.is("a SENTENCE: '" + text + "'", true, Due.put(x, text).sentence() > 0);
        Due.is("how many: '" + text + "'", tests.length, x.said(-1));
        for (int k = 0; k < tests.length; k++) {
            Due.is("the " + k + "-th: '" + text + "'", tests[k], x.said(k));
        }
        Due.is("no more: '" + text + "'", -1, x.said(tests.length));
    }

    private static void said() {
        DreamTests x = Due.withBook(BOOK);
        isSaid(x, "good", 0, 3);
        isSaid(x, "not good", 1, 2, 4);
        isSaid(x, "kept k", 0, 1);
        isSaid(x, "kept l", 4);
        isSaid(x, "rooms < 9", 1, 4);
        isSaid(x, "rooms = 9", 0, 2, 3);
        isSaid(x, "rooms > 8", 0, 2, 3);
        isSaid(x, "rooms > 9");
        isSaid(x, "rooms < 99", 0, 1, 2, 3, 4);
        isSaid(x, "dreams < 5", 0, 1, 3);
        isSaid(x, "dreams = 5", 4);
        isSaid(x, "dreams > 2", 2, 4);
        isSaid(x, "place < 2", 0, 1);
        isSaid(x, "place = 3", 3);
        isSaid(x, "place > 3", 4);
        isSaid(x, "good and kept k", 0);
        isSaid(x, "good or kept k", 0, 1, 3);
        isSaid(x, "not (good or kept k)", 2, 4);
        isSaid(x, "not good and not good or not not place = 0", 0, 1, 2, 4);
        isSaid(x, "good and not good");
        isSaid(x, "asked or ".repeat(10) + "good and ".repeat(9) + "place=3", 3);
        isSaid(x, "not not not not not not(" + "good or ".repeat(12) + "kept l)", 0, 3, 4);
        isSaid(Due.withBook(""), "not good");
    }

    private static void asked() {
        DreamTests x = Due.withBook(BOOK);
        isSaid(x, "asked and not kept k or place=0", 0);
        x.ask(1, 1);
        x.ask(2, 1);
        Due.is("z was asked, y is kept", 2, x.said(-1));
        Due.is("z", 2, x.said(1));
        isSaid(x, "asked", 1, 2);
        x.undo();
        Due.is("z was not asked", 1, x.said(-1));
        x.sleep();
        Due.is("none was asked", 0, x.said(-1));
        isSaid(x, "not asked", 0, 1, 2, 3, 4);
    }

    private static void precedence() {
        DreamTests x = Due.withBook(BOOK);
        isSaid(x, "place = 1 or good and place = 0", 0, 1);
        isSaid(x, "good and place = 0 or place = 1", 0, 1);
        isSaid(x, "(place = 1 or good) and place = 0", 0);
        isSaid(x, "not place = 0 and place < 2", 1);
        isSaid(x, "not (place = 0 and place < 2)", 1, 2, 3, 4);
    }

    private static void noSuch() {
        DreamTests x = Due.withBook(BOOK);
        Due.is("none yet", -1, x.said(-1));
        Due.is("none yet, said(0)", -1, x.said(0));
        isSaid(x, "good", 0, 3);
        Due.is("said(2)", -1, x.said(2));
        Due.is("said(-2)", -1, x.said(-2));
        Due.is("said(greatest int)", -1, x.said(Integer.MAX_VALUE));
        Due.is("said(least int)", -1, x.said(Integer.MIN_VALUE));
    }

    private static void staysWithFault() {
        DreamTests x = Due.withBook(BOOK);
        isSaid(x, "good", 0, 3);
        Due.is("a FAULT", -1 - 4, Due.put(x, "good.").sentence());
        Due.is("it stays", 2, x.said(-1));
        Due.is("the kind", 1, x.fault());
    }
}
