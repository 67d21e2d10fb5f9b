/** Promises 22 to 28: LEAST COST, the text made of it, and TREES. */
public final class CostTest {
    private static final String BOOK = "test x 9 0;test y 8 2;test z 9 9;dream k 2 x;dream l 1;room 3;late 2;wrong 3;";
    private static final String SEVEN = "test a 9 0;test b 9 0;test c 9 0;test d 9 0;test e 9 0;test f 9 0;test g 9 0;"
        + "dream k 1;";

    private CostTest() {
    }

    public static void main(String[] args) {
        cost();
        first();
        write();
        writeOnEachWay();
        byteAt();
        readsWhatItWrites();
        tree();
        treeFaults();
        treeMostBytes();
        worth();
        leads();
        Due.done("CostTest");
    }

    private static void cost() {
        DreamTests x = Due.withBook(BOOK);
        x.ask(0, 1);
        Due.same("by 0", "1/1", Due.fraction(w -> x.cost(0, w)));
        Due.same("by 1", "4/9", Due.fraction(w -> x.cost(1, w)));
        Due.same("by 2", "1/3", Due.fraction(w -> x.cost(2, w)));
        Due.same("by 4", "1/3", Due.fraction(w -> x.cost(4, w)));
        Due.isThrown("cost(5, 0)", () -> x.cost(5, 0));
        Due.isThrown("cost(-1, 0)", () -> x.cost(-1, 0));
        Due.isThrown("cost(1, 2)", () -> x.cost(1, 2));
        Due.isThrown("cost(1, -1)", () -> x.cost(1, -1));
        Due.isThrown("seven TESTS", () -> Due.withBook(SEVEN).cost(0, 0));
        DreamTests y = Due.withBook(SEVEN.replace("test g 9 0;", "") + "learn;tired 1;wrong 50;late 50;");
        Due.same("six TESTS", "0/1", Due.fraction(w -> y.cost(1, w)));
        Due.same("at first", "25/1", Due.fraction(w -> y.cost(0, w)));
        DreamTests z = Due.withBook("test a 6 3;test b 6 3;test c 6 3;dream k 1;wrong 2;late 2;");
        Due.same("one of three alike", "2/3", Due.fraction(w -> z.cost(1, w)));
        Due.same("two of three alike", "2/3", Due.fraction(w -> z.cost(2, w)));
        // 8 and 1: 1 + 3 * 2 of each by 27, times 2
        Due.same("all three alike", "14/27", Due.fraction(w -> z.cost(3, w)));
        Due.same("more than there are", "14/27", Due.fraction(w -> z.cost(4, w)));
    }

    private static void first() {
        DreamTests x = Due.withBook(BOOK);
        Due.is("by 0", -1, x.first(0));
        Due.is("by 1", 1, x.first(1));
        Due.is("by 2", 0, x.first(2));
        Due.is("by 5", -1, x.first(5));
        Due.is("by -1", -1, x.first(-1));
        Due.is("seven TESTS", -1, Due.withBook(SEVEN).first(1));
        Due.is("six TESTS", 0, Due.withBook(SEVEN.replace("test g 9 0;", "")).first(1));
        Due.is("of like ones the first", 1, Due.withBook("test a 5 5;test b 9 0;test c 0 9;dream k 1;").first(1));
        Due.is("none is as good", -1, Due.withBook("test a 5 5;dream k 1;").first(1));
        Due.is("no cost", -1, Due.withBook("test a 9 0;dream k 1;late 0;").first(1));
    }

    private static void writes(DreamTests x, int n, String want) {
        Due.is("write(" + n + ")", want.length(), x.write(n));
        Due.same("the text of write(" + n + ")", want, Due.madeText(x));
    }

    private static void write() {
        DreamTests x = Due.withBook(BOOK);
        writes(x, 0, "bed");
        writes(x, 1, "y ( up ; bed )");
        writes(x, 2, "x ( y ( up ; bed ) ; bed )");
        writes(x, 4, "x ( y ( up ; bed ) ; bed )");
        Due.is("write(5)", -1, x.write(5));
        Due.is("write(-1)", -1, x.write(-1));
        Due.same("the text stays", "x ( y ( up ; bed ) ; bed )", Due.madeText(x));
        Due.is("seven TESTS", -1, Due.withBook(SEVEN).write(0));
        writes(new DreamTests(), 0, "up");
        writes(Due.withBook("dream k 1;"), 4, "up");
        writes(Due.withBook("test zyxwvut 9 0;dream k 1;"), 1, "zyxwvut ( up ; bed )");
    }

    /** The longest text: four TESTS on each way, each of which tells something. */
    private static void writeOnEachWay() {
        DreamTests x = Due.withBook("test aaaaaaa 8 1;test bbbbbbb 1 8;test ccccccc 8 1;test ddddddd 8 1;"
            + "dream k 20;room 20;late 99;wrong 99;");
        int size = x.write(4);
        String text = Due.madeText(x);
        Due.is("its bytes", text.length(), size);
        Due.is("its TREE", true, Due.put(x, text).tree() > 3);
        Due.same("costs as told", Due.fraction(w -> x.cost(4, w)), Due.fraction(x::worth));
    }

    private static void byteAt() {
        DreamTests x = Due.withBook(BOOK);
        Due.is("ahead of any", -1, x.byteAt(0));
        x.write(0);
        Due.is("byteAt(-1)", -1, x.byteAt(-1));
        Due.is("byteAt(0)", 'b', x.byteAt(0));
        Due.is("byteAt(2)", 'd', x.byteAt(2));
        Due.is("byteAt(3)", -1, x.byteAt(3));
        x.write(1);
        Due.is("byteAt(1)", ' ', x.byteAt(1));
        x.write(0);
        Due.is("nothing of the longer one", -1, x.byteAt(3));
        x.feed(1, 2, 3, 4, 5);
        Due.is("not of the tape", -1, x.byteAt(3));
    }

    private static void readsWhatItWrites() {
        String[] books = {BOOK,
            "test a 7 3;test b 6 1;test c 9 5;test d 2 8;test e 8 3;test f 3 4;dream k 5 a;dream l 3 b d;room 6;late 7;wrong 9;",
            "test a 8 1;test b 7 2;test c 8 2;test d 7 1;dream k 9 b;dream l 9 c;room 15;late 20;wrong 30;"};
        for (String book : books) {
            DreamTests x = Due.withBook(book);
            for (int n = 0; n <= 4; n++) {
                int by = n;
                x.write(n);
                Due.is("read what was written", true, Due.put(x, Due.madeText(x)).tree() >= 0);
                Due.same("worth by " + n, Due.fraction(w -> x.cost(by, w)), Due.fraction(x::worth));
                Due.is("leads by " + n, x.first(n) == -1 ? x.byteAt(0) == 'u' ? 1 : 0 : 10 + x.first(n), x.leads());
            }
        }
    }

    private static void treeIs(DreamTests x, String text, int tests) {
        Due.is("tree() of '" + text + "'", tests, Due.put(x, text).tree());
        Due.is("fault() of TREE '" + text + "'", 0, x.fault());
    }

    private static void treeFault(DreamTests x, String text, int kind, int place) {
        Due.is("tree() of '" + text + "'", -1 - place, Due.put(x, text).tree());
        Due.is("fault() of TREE '" + text + "'", kind, x.fault());
    }

    private static void tree() {
        DreamTests x = Due.withBook(SEVEN);
        treeIs(x, "up", 0);
        treeIs(x, " bed\n", 0);
        treeIs(x, "a(up;bed)", 1);
        treeIs(x, "g ( b ( up ; up ) ; b ( bed ; bed ) )", 3);
        treeIs(x, "a(b(c(d(up;bed);up);up);b(c(d(up;bed);up);up))", 7);
        Due.isThrown("worth(2)", () -> x.worth(2));
    }

    private static void treeFaults() {
        DreamTests x = Due.withBook(SEVEN);
        treeFault(x, "", 1, 0);
        treeFault(x, "  ", 1, 2);
        treeFault(x, "a", 1, 1);
        treeFault(x, "a up", 1, 2);
        treeFault(x, "a(up", 1, 4);
        treeFault(x, "a(up bed)", 1, 5);
        treeFault(x, "a(up;bed", 1, 8);
        treeFault(x, "a(up;bed;", 1, 8);
        treeFault(x, "a(;bed)", 1, 2);
        treeFault(x, "(up)", 1, 0);
        treeFault(x, "7", 1, 0);
        treeFault(x, "up up", 1, 3);
        treeFault(x, "up;", 1, 2);
        treeFault(x, "a(up;bed))", 1, 9);
        treeFault(x, "room", 1, 0);
        treeFault(x, "good", 1, 0);
        treeFault(x, "Up", 1, 0);
        treeFault(x, "foo", 3, 0);
        treeFault(x, "k(up;bed)", 3, 0);
        treeFault(x, "a(upp;bed)", 3, 2);
        treeFault(x, "a(a(up;bed);bed)", 3, 2);
        treeFault(x, "a(b(up;up);b(up;a(", 3, 16);
        treeFault(x, "a(b(c(d(e(up;bed)", 4, 8);
        treeFault(x, "a(b(c(d(up;e(up;bed)", 4, 11);
        treeFault(x, "a(b(c(d(up;up);up);b(", 3, 19);
        treeFault(x, "a(b(c(d(a(up;bed)", 3, 8);
        treeFault(x, "a(b(c(d(k(up;bed)", 3, 8);
        treeFault(x, "a(b(c(d(in(up;bed)", 1, 8);
        Due.is("there is none yet", -1, x.leads());
        treeIs(x, "a(up;bed)", 1);
        treeFault(x, "b(up", 1, 4);
        Due.is("it stays", 10, x.leads());
    }

    private static void treeMostBytes() {
        DreamTests x = Due.withBook(SEVEN);
        treeIs(x, " ".repeat(398) + "up", 0);
        treeIs(x, "up" + " ".repeat(398), 0);
        treeFault(x, "up" + " ".repeat(399), 1, 400);
        treeFault(x, " ".repeat(399) + "up", 1, 400);
        treeFault(x, " ".repeat(398) + "k  ", 3, 398);
        treeFault(x, " ".repeat(395) + "a(up;bed)", 1, 400);
        treeFault(x, " ".repeat(399) + "foo", 3, 399);
        treeFault(x, " ".repeat(396) + "a(up foo", 1, 400);
    }

    private static void worth() {
        DreamTests x = Due.withBook(BOOK);
        Due.isThrown("no TREE", () -> x.worth(0));
        x.ask(0, 0);
        treeIs(x, "up", 0);
        Due.same("up", "3/2", Due.fraction(x::worth));
        treeIs(x, "bed", 0);
        Due.same("bed", "1/1", Due.fraction(x::worth));
        treeIs(x, "x(y(up;bed);bed)", 2);
        Due.same("x, then y", "1/3", Due.fraction(x::worth));
        treeIs(x, "y(bed;up)", 1);
        // y STAYS: 24 in the room, late; MOVES: 21 in dreams, wrong; by 54
        Due.same("the wrong way round", "37/18", Due.fraction(x::worth));
        Due.isThrown("worth(2)", () -> x.worth(2));
        Due.isThrown("worth(-1)", () -> x.worth(-1));
        DreamTests y = Due.withBook("test a 8 2;test b 7 3;test c 6 4;test d 5 1;dream k 1;learn;tired 1;");
        treeIs(y, "a(b(c(d(up;bed);bed);bed);bed)", 4);
        // 1680 by 6561 in the room (not so: late), 24 in the dream: wrong
        Due.same("four on a way", "4905/13122", reduced(Due.fraction(y::worth), 4905, 13122));
    }

    /** As told, if it is this fraction in least terms. */
    private static String reduced(String told, long above, long below) {
        String[] sides = told.split("/");
        boolean same = Long.parseLong(sides[0]) * below == Long.parseLong(sides[1]) * above;
        return same ? above + "/" + below : told;
    }

    private static void leads() {
        DreamTests x = Due.withBook(BOOK);
        Due.is("no TREE", -1, x.leads());
        treeIs(x, "x(y(up;bed);z(bed;up))", 3);
        Due.is("asks x", 10, x.leads());
        x.ask(0, 1);
        Due.is("asks y", 11, x.leads());
        x.ask(1, 1);
        Due.is("gets up", 1, x.leads());
        x.ask(1, 1);
        Due.is("more than it asks", -2, x.leads());
        x.undo();
        x.undo();
        x.ask(1, 0);
        Due.is("stays in bed", 0, x.leads());
        x.undo();
        x.ask(2, 1);
        Due.is("not its TEST", -2, x.leads());
        x.sleep();
        x.ask(0, 0);
        Due.is("asks z", 12, x.leads());
        x.ask(2, 1);
        Due.is("stays in bed there", 0, x.leads());
        x.sleep();
        x.ask(1, 1);
        Due.is("not its first TEST", -2, x.leads());
        treeIs(x, "up", 0);
        Due.is("it asks none", -2, x.leads());
        x.sleep();
        Due.is("up at once", 1, x.leads());
    }
}
