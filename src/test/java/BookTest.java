/** Promises 4 to 8 and 45: BOOKS, their FAULTS, and what they tell of TESTS and DREAMS. */
public final class BookTest {
    private static final String SIX_DREAMS = "dream a 1;dream b 1;dream c 1;dream d 1;dream e 1;dream f 1;";
    private static final String EIGHT_TESTS = "test ta 1 1;test tb 1 1;test tc 1 1;test td 1 1;"
        + "test te 1 1;test tf 1 1;test tg 1 1;test th 1 1;";

    private BookTest() {
    }

    public static void main(String[] args) {
        fine();
        unfit();
        numbers();
        names();
        tooMany();
        mostBytes();
        staysWithFault();
        newBook();
        tests();
        dreams();
        staysNow();
        count();
        Due.done("BookTest");
    }

    private static void bookIs(String text, int lines) {
        DreamTests x = Due.put(new DreamTests(), text);
        Due.is("book() of '" + text + "'", lines, x.book());
        Due.is("fault() of '" + text + "'", 0, x.fault());
    }

    private static void fine() {
        bookIs("", 0);
        bookIs(" \n ", 0);
        bookIs("learn;", 1);
        bookIs("\nlearn\n;\n", 1);
        bookIs("room 1;tired 00;", 2);
        bookIs("room 20;tired\n12;sure 9 ;late 99;wrong 0;learn;", 6);
        bookIs("sure 5;late 07;", 2);
        bookIs("test abcdefg 0 9;dream a 20 abcdefg;", 2);
        bookIs(EIGHT_TESTS + SIX_DREAMS, 14);
        bookIs(EIGHT_TESTS + "dream x 1 ta tb tc td te tf tg th;", 9);
        bookIs("test rooma 1 1;test tests 1 1;test roo 1 1;test ins 1 1;", 4);
    }

    private static void unfit() {
        Due.bookFault(";", 1, 0);
        Due.bookFault(" learn", 1, 6);
        Due.bookFault("learn  \n", 1, 8);
        Due.bookFault("learn;;", 1, 6);
        Due.bookFault("learn 1;", 1, 6);
        Due.bookFault("foo 1;", 1, 0);
        Due.bookFault("7;", 1, 0);
        Due.bookFault("in;", 1, 0);
        Due.bookFault("test 1 1 1;", 1, 5);
        Due.bookFault("test a b 1;", 1, 7);
        Due.bookFault("test a 1 b;", 1, 9);
        Due.bookFault("test a 1 1 1;", 1, 11);
        Due.bookFault("test abcdefgh 1 1;", 1, 5);
        Due.bookFault("test a1 1 1;", 1, 5);
        Due.bookFault("test 1a 1 1;", 1, 5);
        Due.bookFault("testa 1 1;", 1, 0);
        Due.bookFault("room20;", 1, 0);
        Due.bookFault("test a 001 1;", 1, 7);
        Due.bookFault("late 100;", 1, 5);
        Due.bookFault("room;", 1, 4);
        Due.bookFault("room x;", 1, 5);
        Due.bookFault("room <;", 1, 5);
        Due.bookFault("room .;", 1, 5);
        Due.bookFault("learn.", 1, 5);
        Due.bookFault("learn,", 1, 5);
        Due.bookFault("Learn;", 1, 0);
        Due.bookFault("learn\t;", 1, 5);
        Due.bookFault("learn;\u00e9", 1, 6);
        Due.bookFault("learn;\u0000", 1, 6);
        Due.bookFault("dream k;", 1, 7);
        Due.bookFault("dream k 1 2;", 1, 10);
        Due.bookFault("test a 1 1;dream k 1 a (", 1, 23);
        Due.bookFault("dream k 1 ", 1, 10);
    }

    private static void numbers() {
        Due.bookFault("test a 10 1;", 2, 7);
        Due.bookFault("test a 9 10;", 2, 9);
        Due.bookFault("dream k 0;", 2, 8);
        Due.bookFault("dream k 21;", 2, 8);
        Due.bookFault("room 0;", 2, 5);
        Due.bookFault("room 21;", 2, 5);
        Due.bookFault("tired 13;", 2, 6);
        Due.bookFault("sure 4;", 2, 5);
        Due.bookFault("sure 10;", 2, 5);
    }

    private static void names() {
        String[] kept = {"test", "dream", "room", "tired", "sure", "late", "wrong", "learn", "in", "stays", "moves",
            "up", "bed", "or", "and", "not", "good", "kept", "asked", "rooms", "dreams", "place"};
        for (String word : kept) {
            Due.bookFault("test " + word + " 1 1;", 1, 5);
            Due.bookFault("dream " + word + " 1;", 1, 6);
            Due.bookFault("dream k 1 " + word + ";", 1, 10);
        }
        Due.bookFault("test a 1 1;test a 1 1;", 3, 16);
        Due.bookFault("test a 1 1;dream a 1;", 3, 17);
        Due.bookFault("dream a 1;test a 1 1;", 3, 15);
        Due.bookFault("dream a 1;dream a 1;", 3, 16);
        Due.bookFault("dream k 1 a;test a 1 1;", 3, 10);
        Due.bookFault("dream k 1;dream l 1 k;", 3, 20);
        Due.bookFault("dream k 1 k;", 3, 10);
        Due.bookFault("test a 1 1;dream k 1 a a;", 3, 23);
        String all = EIGHT_TESTS + "dream x 1 ta tb tc td te tf tg th ";
        Due.bookFault(all + "ta;", 3, all.length());
        Due.bookFault(all + "th th", 3, all.length());
        String[] once = {"room 1", "tired 1", "sure 8", "late 1", "wrong 1", "learn"};
        for (String line : once) {
            Due.bookFault(line + ";" + line + ";", 3, line.length() + 1);
            // At the WORD, whatever stands behind it.
            String word = line.split(" ")[0];
            Due.bookFault(line + ";" + word + " 99 99;", 3, line.length() + 1);
        }
    }

    private static void tooMany() {
        Due.bookFault(EIGHT_TESTS + "test i 1 1;", 4, EIGHT_TESTS.length());
        Due.bookFault(EIGHT_TESTS + " test test", 4, EIGHT_TESTS.length() + 1);
        Due.bookFault(SIX_DREAMS + "dream g 1;", 4, SIX_DREAMS.length());
        Due.bookFault(SIX_DREAMS + "dream 0", 4, SIX_DREAMS.length());
        bookIs(EIGHT_TESTS + SIX_DREAMS + "learn;", 15);
    }

    private static void mostBytes() {
        String blanks = " ".repeat(894);
        bookIs(blanks + "learn;", 1);
        bookIs("learn;" + blanks, 1);
        Due.bookFault("learn;" + blanks + " ", 1, 900);
        Due.bookFault(blanks + " learn;", 1, 900);
        Due.bookFault(blanks + "learn" + " ".repeat(5) + ";", 1, 900);
        // TOKENS that begin ahead of the last byte are read whole: here a WORD of 8, there of 7.
        Due.bookFault(blanks + "    learn;", 1, 900);
        Due.bookFault(blanks + "     learnlea", 1, 899);
        Due.bookFault(blanks + "     foo;", 1, 899);
        Due.bookFault(blanks + "      foo;", 1, 900);
        Due.bookFault("learn;" + " ".repeat(880) + "room   100;     ", 1, 893);
        Due.bookFault("learn;" + " ".repeat(888) + "room 21;     ", 2, 899);
        Due.bookFault("room 0;" + " ".repeat(900), 2, 5);
        Due.bookFault(" ".repeat(940), 1, 900);
    }

    private static void staysWithFault() {
        DreamTests x = Due.withBook("test a 9 0;room 3;");
        x.ask(0, 1);
        x.ask(0, 1);
        Due.put(x, "up").tree();
        Due.put(x, "good").sentence();
        Due.is("a faulty BOOK", -1, Due.put(x, ";test b 1 1;").book());
        Due.is("its FAULT", 1, x.fault());
        Due.is("TESTS stay", 1, x.count(0));
        Due.is("the WEIGHT stays", 3, x.count(2));
        Due.is("the NIGHT stays", 2, x.count(8));
        Due.is("the TREE stays", -2, x.leads());
        Due.is("the SENTENCE stays", 1, x.said(-1));
        Due.is("what was done can be undone", 1, x.undo());
    }

    private static void newBook() {
        DreamTests x = Due.withBook("test a 9 0;room 3;tired 5;sure 7;late 3;wrong 4;learn;");
        x.ask(0, 1);
        Due.put(x, "up").tree();
        Due.put(x, "good").sentence();
        x.write(0);
        Due.put(x, "in room; a moves;").nights();
        Due.is("an empty BOOK", 0, Due.put(x, "").book());
        int[] want = {0, 0, 1, 0, 8, 1, 1, 0, 0, 0};
        for (int what = 0; what < want.length; what++) {
            Due.is("new BOOK: count(" + what + ")", want[what], x.count(what));
        }
        Due.is("new BOOK: leads()", -1, x.leads());
        Due.is("new BOOK: said(-1)", -1, x.said(-1));
        Due.is("new BOOK: undo()", -1, x.undo());
        Due.is("new BOOK: the text made last", 'u', x.byteAt(0));
        Due.is("new BOOK: judged last", 1, x.judged(0));
        Due.isThrown("new BOOK: worth(0)", () -> x.worth(0));
    }

    private static void tests() {
        DreamTests x = Due.withBook("test a 9 0;test b 3 7;dream k 1 a;dream l 1;dream m 1 b a;");
        Due.is("a ROOM", 9, x.test(0, 0));
        Due.is("a DREAM", 0, x.test(0, 1));
        Due.is("b ROOM", 3, x.test(1, 0));
        Due.is("b DREAM", 7, x.test(1, 1));
        Due.is("a is kept", 5, x.test(0, 3));
        Due.is("b is kept", 4, x.test(1, 3));
        x.ask(1, 1);
        x.ask(1, 0);
        Due.is("a was asked", 0, x.test(0, 2));
        Due.is("b was asked", 2, x.test(1, 2));
        Due.is("test(2, 0)", -1, x.test(2, 0));
        Due.is("test(-1, 0)", -1, x.test(-1, 0));
        Due.is("test(8, 2)", -1, x.test(8, 2));
        Due.is("test(0, 4)", -1, x.test(0, 4));
        Due.is("test(0, -1)", -1, x.test(0, -1));
    }

    private static void dreams() {
        DreamTests x = Due.withBook("test a 9 0;test b 3 7;dream k 20 b;dream l 7 b a;");
        Due.is("k WEIGHT", 20, x.dream(0, 0));
        Due.is("k keeps", 2, x.dream(0, 1));
        Due.is("l WEIGHT", 7, x.dream(1, 0));
        Due.is("l keeps", 3, x.dream(1, 1));
        Due.is("dream(2, 0)", -1, x.dream(2, 0));
        Due.is("dream(-1, 0)", -1, x.dream(-1, 0));
        Due.is("dream(-1, 1)", -1, x.dream(-1, 1));
        Due.is("dream(0, 2)", -1, x.dream(0, 2));
        Due.is("dream(0, -1)", -1, x.dream(0, -1));
    }

    private static void staysNow() {
        DreamTests x = Due.withBook("test a 8 2;test b 7 3;dream k 1 b;learn;tired 4;");
        Due.is("in the room", 8, x.stays(0, -1));
        Due.is("in a DREAM", 2, x.stays(0, 0));
        Due.is("in a DREAM that keeps it", 7, x.stays(1, 0));
        x.ask(0, 0);
        Due.is("learnt", 8, x.stays(0, 0));
        Due.is("in the room as ever", 8, x.stays(0, -1));
        x.ask(1, 0);
        Due.is("ahead of tired", 8, x.stays(0, 0));
        x.ask(1, 0);
        Due.is("tired in the room", 9, x.stays(0, -1));
        Due.is("tired in a DREAM", 9, x.stays(0, 0));
        x.sleep();
        Due.is("a new NIGHT", 2, x.stays(0, 0));
        Due.is("stays(2, 0)", -1, x.stays(2, 0));
        Due.is("stays(-1, 0)", -1, x.stays(-1, 0));
        Due.is("stays(0, 1)", -1, x.stays(0, 1));
        Due.is("stays(0, -2)", -1, x.stays(0, -2));
        DreamTests y = Due.withBook("test a 8 2;dream k 1;tired 1;");
        Due.is("tired from the first", 9, y.stays(0, 0));
        DreamTests z = Due.withBook("test a 8 2;dream k 1;");
        z.ask(0, 1);
        Due.is("no 'learn'", 2, z.stays(0, 0));
        for (int i = 0; i < 11; i++) {
            z.ask(0, 1);
        }
        Due.is("never tired", 2, z.stays(0, 0));
    }

    private static void count() {
        DreamTests x = Due.withBook("test a 9 0;test b 9 0;test c 1 1;dream k 2;dream l 3;"
            + "room 7;tired 11;sure 6;late 98;wrong 99;learn;");
        x.ask(0, 1);
        Due.put(x, "abc");
        int[] want = {3, 2, 7, 11, 6, 98, 99, 1, 1, 3};
        for (int what = 0; what < want.length; what++) {
            Due.is("count(" + what + ")", want[what], x.count(what));
        }
        Due.is("count(10)", -1, x.count(10));
        Due.is("count(-1)", -1, x.count(-1));
        Due.is("count(least int)", -1, x.count(Integer.MIN_VALUE));
    }
}
