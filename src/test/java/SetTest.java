/** Promises 18 to 21, 30, 31, 33, 34 and 36: what sets of TESTS tell, LOTS, rooms that fail, DEEP. */
public final class SetTest {
    private static final String BOOK = "test x 9 0;test y 8 2;test z 9 9;dream k 2 x;dream l 1;room 3;late 2;wrong 3;";

    private SetTest() {
    }

    public static void main(String[] args) {
        enough();
        forger();
        error();
        errorAtFirst();
        pair();
        lot();
        share();
        fails();
        deep();
        apart();
        Due.done("SetTest");
    }

    private static void enough() {
        Due.is("none without DREAMS", 0, Due.withBook("test a 9 0;").enough());
        Due.is("k keeps the only one", -1, Due.withBook(BOOK).enough());
        Due.is("no GOOD TESTS", -1, Due.withBook("test a 9 1;test b 8 0;dream k 1;").enough());
        Due.is("one does", 1, Due.withBook("test a 9 0;test b 9 0;dream k 1;").enough());
        Due.is("the one that is not kept", 2, Due.withBook("test a 9 0;test b 9 0;dream k 1 a;").enough());
        Due.is("two", 3, Due.withBook("test a 9 0;test b 9 0;dream k 1 a;dream l 1 b;").enough());
        Due.is("a and b are 3, c is 4", 4,
            Due.withBook("test a 9 0;test b 9 0;test c 9 0;dream k 1 a;dream l 1 b;").enough());
        Due.is("of like ones the least", 3,
            Due.withBook("test a 9 0;test b 9 0;test c 9 0;dream k 1 a;dream l 1 b;dream m 1 c;").enough());
        Due.is("not GOOD, not taken", 6,
            Due.withBook("test a 9 1;test b 9 0;test c 9 0;dream k 1 b;dream l 1 c;").enough());
        Due.is("three of eight", 7, Due.withBook("test a 9 0;test b 9 0;test c 9 0;test d 9 0;test e 9 0;test f 9 0;"
            + "test g 9 0;test h 9 0;dream k 1 a b d e f g h;dream l 1 a c d e f g h;dream m 1 b c d e f g h;").enough());
        Due.is("h alone", 128, Due.withBook("test a 9 0;test b 9 0;test c 9 0;test d 9 0;test e 9 0;test f 9 0;"
            + "test g 9 0;test h 9 0;dream k 1 a b c d e f g;").enough());
    }

    private static void forger() {
        Due.is("k", 0, Due.withBook(BOOK).forger());
        Due.is("none", -1, Due.withBook("test a 9 0;dream k 1;").forger());
        Due.is("the second", 1, Due.withBook("test a 9 0;test b 9 0;dream k 1 a;dream l 1 b a;dream m 1 a b;").forger());
        Due.is("no GOOD TESTS", 0, Due.withBook("test a 9 1;dream k 1;").forger());
        Due.is("no DREAMS", -1, Due.withBook("test a 9 0;").forger());
    }

    private static void error() {
        DreamTests x = Due.withBook(BOOK);
        Due.same("of none", "1/2", Due.fraction(w -> x.error(0, w)));
        Due.same("of x", "1/3", Due.fraction(w -> x.error(1, w)));
        Due.same("of y", "1/6", Due.fraction(w -> x.error(2, w)));
        Due.same("of x and y", "7/54", Due.fraction(w -> x.error(3, w)));
        Due.same("of all", "7/54", Due.fraction(w -> x.error(7, w)));
        Due.isThrown("error(8, 0)", () -> x.error(8, 0));
        Due.isThrown("error(-1, 0)", () -> x.error(-1, 0));
        Due.isThrown("error(1, 2)", () -> x.error(1, 2));
        Due.isThrown("error(1, -1)", () -> x.error(1, -1));
        DreamTests y = Due.withBook("test a 9 0;test b 9 0;test c 9 0;test d 9 0;test e 9 0;test f 9 0;dream k 1;");
        Due.same("of five", "0/1", Due.fraction(w -> y.error(31, w)));
        Due.same("of other five", "0/1", Due.fraction(w -> y.error(62, w)));
        Due.isThrown("of six", () -> y.error(63, 0));
        DreamTests z = Due.withBook("test a 6 3;test b 6 3;test c 6 3;test d 6 3;test e 6 3;dream k 1;");
        // 1 + 5 * 2 + 10 * 4 of each, by 243
        Due.same("of five alike", "17/81", Due.fraction(w -> z.error(31, w)));
    }

    private static void errorAtFirst() {
        DreamTests x = Due.withBook("test a 9 0;test b 8 2;dream k 1;learn;tired 1;");
        x.ask(0, 1);
        Due.same("no 'tired', no answers", "0/1", Due.fraction(w -> x.error(1, w)));
        Due.same("of b", "1/6", Due.fraction(w -> x.error(2, w)));
    }

    private static void pair() {
        Due.is("x and y", 1, Due.withBook(BOOK).pair());
        Due.is("one TEST", -1, Due.withBook("test a 9 0;dream k 1;").pair());
        Due.is("of like ones the first", 1, Due.withBook("test a 5 5;test b 5 5;test c 5 5;dream k 1;").pair());
        Due.is("b and d", 13, Due.withBook("test a 5 5;test b 8 2;test c 5 5;test d 8 2;dream k 1;").pair());
        Due.is("the last two", 67, Due.withBook("test a 5 5;test b 5 5;test c 5 5;test d 5 5;test e 5 5;test f 5 5;"
            + "test g 9 3;test h 9 3;dream k 1;").pair());
        Due.is("they check each other", 12,
            Due.withBook("test a 9 1;test b 9 0;test c 9 0;dream k 1 b;dream l 1 c;room 4;").pair());
    }

    private static void lot() {
        DreamTests x = Due.withBook(BOOK);
        Due.same("7 by 16", "7/16", Due.fraction(x::lot));
        Due.isThrown("lot(2)", () -> x.lot(2));
        Due.isThrown("lot(-1)", () -> x.lot(-1));
        Due.isThrown("one that MOVES", () -> Due.withBook("test a 9 0;test b 9 9;").lot(0));
        Due.isThrown("no TESTS", () -> new DreamTests().lot(0));
        Due.same("two that always MOVE", "1/2", Due.fraction(Due.withBook("test a 0 0;test b 0 0;")::lot));
        Due.same("two that seldom MOVE", "1/18", Due.fraction(Due.withBook("test a 0 8;test b 0 8;")::lot));
        // With a and b 1 by 2; c MOVES by 4 of 9, which is less
        Due.same("c is left", "1/2", Due.fraction(Due.withBook("test a 0 0;test b 0 0;test c 0 5;")::lot));
        // c MOVES by 5 of 9: 2 by 1 and 1 and 9 by 5
        Due.same("c is taken", "10/19", Due.fraction(Due.withBook("test a 0 0;test b 0 0;test c 0 4;")::lot));
    }

    private static void share() {
        DreamTests x = Due.withBook(BOOK);
        Due.same("x", "7/16", Due.fraction(w -> x.share(0, w)));
        Due.same("y", "9/16", Due.fraction(w -> x.share(1, w)));
        Due.same("z", "0/1", Due.fraction(w -> x.share(2, w)));
        Due.isThrown("share(3, 0)", () -> x.share(3, 0));
        Due.isThrown("share(-1, 0)", () -> x.share(-1, 0));
        Due.isThrown("share(0, 2)", () -> x.share(0, 2));
        Due.isThrown("share(0, -1)", () -> x.share(0, -1));
        Due.isThrown("one that MOVES", () -> Due.withBook("test a 9 0;test b 9 9;").share(0, 0));
        // Two that MOVE by 8 of 9 make 4 of 9; c MOVES by 4 of 9: with it as without it, 2 by 9 by 8, 9 by 8 and 9 by 4
        DreamTests y = Due.withBook("test a 0 1;test b 0 1;test c 0 5;");
        Due.same("as without c", "4/9", Due.fraction(y::lot));
        Due.same("a with c", "1/4", Due.fraction(w -> y.share(0, w)));
        Due.same("c too", "1/2", Due.fraction(w -> y.share(2, w)));
        DreamTests last = Due.withBook("test c 0 9;test b 0 0;test a 0 0;");
        Due.same("c is first and never asked", "0/1", Due.fraction(w -> last.share(0, w)));
        Due.same("it is no odds", "1/2", Due.fraction(last::lot));
        DreamTests z = Due.withBook("test a 0 0;test b 0 0;test c 0 5;");
        Due.same("c is left", "0/1", Due.fraction(w -> z.share(2, w)));
        Due.same("a without c", "1/2", Due.fraction(w -> z.share(0, w)));
    }

    private static void fails() {
        DreamTests x = Due.withBook("test a 9 0;test b 8 2;test c 6 2;dream k 1;tired 1;learn;");
        Due.same("of none", "0/1", Due.fraction(w -> x.fails(0, w)));
        Due.same("a never", "0/1", Due.fraction(w -> x.fails(1, w)));
        Due.same("b", "1/9", Due.fraction(w -> x.fails(2, w)));
        Due.same("b and c", "11/27", Due.fraction(w -> x.fails(6, w)));
        Due.same("all", "11/27", Due.fraction(w -> x.fails(7, w)));
        Due.isThrown("fails(8, 0)", () -> x.fails(8, 0));
        Due.isThrown("fails(-1, 0)", () -> x.fails(-1, 0));
        Due.isThrown("fails(least int, 0)", () -> x.fails(Integer.MIN_VALUE, 0));
        Due.isThrown("fails(1, 2)", () -> x.fails(1, 2));
        Due.isThrown("fails(1, -1)", () -> x.fails(1, -1));
        DreamTests y = Due.withBook("test a 8 0;test b 8 0;test c 8 0;test d 8 0;test e 8 0;test f 8 0;test g 8 0;"
            + "test h 8 0;");
        // 9^8 less 8^8 by 9^8
        Due.same("of eight", "26269505/43046721", Due.fraction(w -> y.fails(255, w)));
        Due.isThrown("fails(256, 0)", () -> y.fails(256, 0));
    }

    private static void deep() {
        DreamTests x = Due.withBook("dream k 3;dream l 2;room 4;");
        Due.same("deep(0)", "1/1", Due.fraction(w -> x.deep(0, w)));
        Due.same("deep(1)", "5/9", Due.fraction(w -> x.deep(1, w)));
        Due.same("deep(2)", "25/81", Due.fraction(w -> x.deep(2, w)));
        Due.same("deep(8)", "390625/43046721", Due.fraction(w -> x.deep(8, w)));
        Due.isThrown("deep(9, 0)", () -> x.deep(9, 0));
        Due.isThrown("deep(-1, 0)", () -> x.deep(-1, 0));
        Due.isThrown("deep(1, 2)", () -> x.deep(1, 2));
        Due.isThrown("deep(1, -1)", () -> x.deep(1, -1));
        DreamTests y = Due.withBook("dream a 20;dream b 20;dream c 20;dream d 20;dream e 20;dream f 20;room 19;");
        // 120^8 by 139^8
        Due.same("the greatest numbers", "42998169600000000/139353667211683681", Due.fraction(w -> y.deep(8, w)));
        Due.same("no DREAMS", "0/1", Due.fraction(w -> new DreamTests().deep(1, w)));
    }

    private static void apart() {
        DreamTests x = Due.withBook("test a 1 1;test b 1 1;test c 1 1;test d 1 1;"
            + "dream k 1 a b;dream l 1 b c d;dream m 1;");
        Due.is("k and l", 3, x.apart(0, 1));
        Due.is("l and k", 3, x.apart(1, 0));
        Due.is("k and m", 2, x.apart(0, 2));
        Due.is("m and l", 3, x.apart(2, 1));
        Due.is("l and l", 0, x.apart(1, 1));
        Due.is("apart(0, 3)", -1, x.apart(0, 3));
        Due.is("apart(3, 0)", -1, x.apart(3, 0));
        Due.is("apart(-1, 0)", -1, x.apart(-1, 0));
        Due.is("apart(0, -1)", -1, x.apart(0, -1));
    }
}
