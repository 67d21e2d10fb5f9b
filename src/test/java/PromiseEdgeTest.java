/** The edges of the promises: a BOOK that is full, one that is empty, the last ones that there are, the first that not. */
public final class PromiseEdgeTest {
    /** 8 TESTS, 6 DREAMS, and the six LINES that are told once; DREAM i keeps the TEST 7 less i. */
    private static final String FULL = "test aaaaaaa 9 0;test bbbbbbb 9 1;test ccccccc 9 2;test ddddddd 9 3;"
        + "test eeeeeee 9 4;test fffffff 9 5;test ggggggg 9 6;test hhhhhhh 9 7;"
        + "dream uuuuuuu 1 hhhhhhh;dream vvvvvvv 2 ggggggg;dream wwwwwww 3 fffffff;dream xxxxxxx 4 eeeeeee;"
        + "dream yyyyyyy 5 ddddddd;dream zzzzzzz 6 ccccccc;room 20;tired 12;sure 9;late 99;wrong 99;learn;";

    private PromiseEdgeTest() {
    }

    public static void main(String[] args) {
        fullBook();
        fullIndices();
        fullNight();
        fullTree();
        fullSets();
        fullSentence();
        fullOrders();
        fullNights();
        fullImage();
        emptyBook();
        emptyDreams();
        emptyTests();
        errorOfFive();
        afterAll();
        undoEight();
        undoAcrossActs();
        drawnMost();
        wrongsMost();
        judgedAheadOfAny();
        leadsAtItsEnds();
        byteAtItsEnds();
        imagesOfNothing();
        mostCalls();
        Due.done("PromiseEdgeTest");
    }

    private static DreamTests full() {
        return Due.withBook(FULL);
    }

    private static void fullBook() {
        DreamTests x = new DreamTests();
        Due.is("LINES of a full BOOK", 20, Due.put(x, FULL).book());
        int[] want = {8, 6, 20, 12, 9, 99, 99, 1, 0, 0};
        for (int what = 0; what < want.length; what++) {
            Due.is("full: count(" + what + ")", want[what], x.count(what));
        }
        // As long as a BOOK may be
        Due.is("of 900 bytes", 20, Due.put(x, FULL + "\n".repeat(900 - FULL.length())).book());
        Due.is("of 901 bytes", -901, Due.put(x, FULL + "\n".repeat(901 - FULL.length())).book());
        Due.is("the FAULT", 1, x.fault());
        Due.is("it stays", 8, x.count(0));
    }

    private static void fullIndices() {
        DreamTests x = full();
        int[] keepers = {0, 0, 32, 16, 8, 4, 2, 1};
        for (int i = 0; i < 8; i++) {
            Due.is("test(" + i + ", 0)", 9, x.test(i, 0));
            Due.is("test(" + i + ", 1)", i, x.test(i, 1));
            Due.is("test(" + i + ", 2)", 0, x.test(i, 2));
            Due.is("test(" + i + ", 3)", keepers[i], x.test(i, 3));
            Due.is("stays(" + i + ", -1)", 9, x.stays(i, -1));
            Due.is("stays(" + i + ", 0)", i == 7 ? 9 : i, x.stays(i, 0));
            Due.is("stays(" + i + ", 5)", i == 2 ? 9 : i, x.stays(i, 5));
            Due.is("stays(" + i + ", 6)", -1, x.stays(i, 6));
            Due.is("stays(" + i + ", -2)", -1, x.stays(i, -2));
        }
        for (int i = 0; i < 6; i++) {
            int dream = i;
            Due.is("dream(" + i + ", 0)", i + 1, x.dream(i, 0));
            Due.is("dream(" + i + ", 1)", 1 << 7 - i, x.dream(i, 1));
            Due.is("apart(" + i + ", 5)", i == 5 ? 0 : 2, x.apart(i, 5));
            Due.same("odds(" + i + ")", i + 1 + "/41", Due.fraction(w -> x.odds(dream, w)));
        }
        Due.is("test(8, 0)", -1, x.test(8, 0));
        Due.is("dream(6, 0)", -1, x.dream(6, 0));
        Due.is("dream(6, 1)", -1, x.dream(6, 1));
        Due.is("stays(8, 5)", -1, x.stays(8, 5));
        Due.is("apart(5, 6)", -1, x.apart(5, 6));
        Due.is("apart(6, 5)", -1, x.apart(6, 5));
        Due.isThrown("odds(6, 0)", () -> x.odds(6, 0));
        Due.isThrown("tells(8, 0)", () -> x.tells(8, 0));
        Due.isThrown("share(8, 0)", () -> x.share(8, 0));
        Due.is("ask(8, 1)", -1, x.ask(8, 1));
    }

    private static void fullNight() {
        DreamTests x = full();
        Due.is("all fit", 127, x.fits());
        // 20 of 9 and 7 times 1 and 20, 9 times 1, by 9 times 41
        Due.same("tells(7)", "329/369", Due.fraction(w -> x.tells(7, w)));
        Due.is("h MOVES", 1, x.ask(7, 0));
        Due.is("answer(0)", 14, x.answer(0));
        Due.is("neither the room nor u", 124, x.fits());
        Due.is("z is likeliest", 5, x.likely());
        Due.same("odds(5)", "3/10", Due.fraction(w -> x.odds(5, w)));
        Due.same("odds(0)", "0/1", Due.fraction(w -> x.odds(0, w)));
        Due.is("c MOVES", 2, x.ask(2, 0));
        Due.is("not z either", 60, x.fits());
        Due.is("y is likeliest", 4, x.likely());
        Due.is("h was learnt", 9, x.stays(7, 3));
        for (int i = 3; i <= 11; i++) {
            Due.is("h STAYS, as it was learnt: " + i, i, x.ask(7, 1));
        }
        Due.is("c was asked once", 1, x.test(2, 2));
        Due.is("h was asked ten times", 10, x.test(7, 2));
        Due.is("tired at the 12th", 9, x.stays(0, 4));
        Due.is("it can't MOVE", -1, x.ask(6, 0));
        Due.is("the 12th", 12, x.ask(6, 1));
        Due.is("answer(11)", 13, x.answer(11));
        Due.is("answer(12)", -1, x.answer(12));
        Due.is("up()", 0, x.up());
        Due.is("next()", -1, x.next());
        Due.is("undo()", 7, x.undo());
        Due.is("g was not asked", 0, x.test(6, 2));
        Due.is("h was, still", 10, x.test(7, 2));
        Due.is("next(), tired", 0, x.next());
    }

    private static void fullTree() {
        DreamTests x = full();
        String text = "hhhhhhh(ggggggg(up;bed);ccccccc(up;aaaaaaa(bbbbbbb(up;bed);bed)))";
        Due.is("tree()", 5, Due.put(x, text).tree());
        Due.is("leads to h", 17, x.leads());
        x.ask(7, 1);
        Due.is("leads to g", 16, x.leads());
        x.undo();
        x.ask(7, 0);
        Due.is("leads to c", 12, x.leads());
        x.ask(2, 0);
        Due.is("leads to a", 10, x.leads());
        Due.is("a can't STAY there", -1, x.ask(0, 1));
        x.ask(0, 0);
        Due.is("leads to bed", 0, x.leads());
        Due.is("no cost of eight TESTS", -1, x.first(1));
        Due.isThrown("nor of its fraction", () -> x.cost(0, 0));
        // 99 times 20 by 41
        Due.put(x, "bed").tree();
        Due.same("but what a TREE costs", "1980/41", Due.fraction(x::worth));
    }

    private static void fullSets() {
        DreamTests x = full();
        Due.is("a is enough", 1, x.enough());
        Due.is("none keeps it", -1, x.forger());
        Due.same("fails(255)", "0/1", Due.fraction(w -> x.fails(255, w)));
        Due.isThrown("fails(256)", () -> x.fails(256, 0));
        Due.same("fails(128)", "0/1", Due.fraction(w -> x.fails(128, w)));
        Due.same("error(1)", "0/1", Due.fraction(w -> x.error(1, w)));
        // h STAYS: 20 times 9 of the room, 1 times 9 and 20 times 7 of the DREAMS
        Due.same("error(128)", "149/369", Due.fraction(w -> x.error(128, w)));
        Due.isThrown("error(256)", () -> x.error(256, 0));
        Due.is("a and b, for a tells all", 1, x.pair());
        Due.same("deep(8)", "37822859361/7984925229121", Due.fraction(w -> x.deep(8, w)));
        int seen = 0;
        for (int seed = 0; seed < 100; seed++) {
            seen |= 1 << x.drawn(0, seed * 99991);
        }
        Due.is("drawn where one can be", 127, seen);
    }

    private static void said(DreamTests x, String text, int... tests) {
        Due.is("ONES of '" + text + "'", true, Due.put(x, text).sentence() > 0);
        Due.is("how many: '" + text + "'", tests.length, x.said(-1));
        for (int k = 0; k < tests.length; k++) {
            Due.is("said(" + k + ") of '" + text + "'", tests[k], x.said(k));
        }
        Due.is("no more: '" + text + "'", -1, x.said(tests.length));
        Due.is("none ahead: '" + text + "'", -1, x.said(-2));
    }

    private static void fullSentence() {
        DreamTests x = full();
        said(x, "rooms = 9", 0, 1, 2, 3, 4, 5, 6, 7);
        said(x, "place > 6", 7);
        said(x, "place > 7");
        said(x, "place < 8 and place > 5", 6, 7);
        said(x, "place = 0", 0);
        said(x, "place < 0");
        said(x, "dreams = 7 or dreams < 1", 0, 7);
        said(x, "rooms < 9");
        said(x, "rooms > 8 and dreams > 5", 6, 7);
        said(x, "kept uuuuuuu or kept zzzzzzz", 2, 7);
        said(x, "not good", 1, 2, 3, 4, 5, 6, 7);
        said(x, "asked");
        x.ask(7, 1);
        x.ask(6, 1);
        said(x, "asked", 6, 7);
        said(x, "not asked", 0, 1, 2, 3, 4, 5);
        x.sleep();
        x.ask(0, 1);
        said(x, "asked", 0);
    }

    /** Each SIGN with each NUMBER: below, at and above what a TEST has. */
    private static void fullOrders() {
        String[] words = {"rooms", "dreams", "place"};
        for (int number = 0; number <= 99; number++) {
            for (String word : words) {
                DreamTests x = full();
                for (int sign = -1; sign <= 1; sign++) {
                    String text = word + "<=>".charAt(sign + 1) + number;
                    Due.is("ONES of " + text, 1, Due.put(x, text).sentence());
                    int many = 0;
                    for (int test = 0; test < 8; test++) {
                        int value = word.equals("rooms") ? 9 : test;
                        if (Integer.compare(value, number) == sign) {
                            Due.is("said(" + many + ") of " + text, test, x.said(many));
                            many++;
                        }
                    }
                    Due.is("how many: " + text, many, x.said(-1));
                    Due.is("no more: " + text, -1, x.said(many));
                }
            }
        }
    }

    /** Of 40 LINES each may be the one that is WRONG, and the last one too. */
    private static void fullNights() {
        for (int line = 0; line <= 40; line++) {
            DreamTests x = Due.withBook("test a 5 5;dream k 1;");
            StringBuilder text = new StringBuilder("in k;");
            for (int i = 1; i < 40; i++) {
                text.append(i == line ? "bed;" : i % 4 == 2 ? "in room;" : i % 4 == 3 ? "a moves;" : "up;");
            }
            int wrong = line == 0 || line == 40 ? -1 : line;
            Due.is("nights() with 'bed' at " + line, wrong, Due.put(x, text.toString()).nights());
            Due.is("why", wrong < 0 ? 0 : 3, x.judged(0));
            int began = 1;
            int answers = 0;
            for (int i = 1; i < 40 && (wrong < 0 || i < wrong); i++) {
                began += i % 4 == 2 ? 1 : 0;
                answers += i % 4 == 3 ? 1 : 0;
            }
            Due.is("nights that began up to " + line, began, x.judged(1));
            Due.is("answers up to " + line, answers, x.judged(2));
        }
    }

    private static void fullImage() {
        DreamTests x = full();
        x.ask(7, 0);
        x.ask(7, 1);
        for (int i = 0; i < 10; i++) {
            x.ask(6, 1);
        }
        Due.is("12 answers", -1, x.ask(6, 1));
        x.image(1);
        Due.put(x, "").book();
        Due.is("an empty BOOK", 0, x.count(0));
        Due.is("restore(1)", true, x.restore(1));
        Due.is("8 TESTS", 8, x.count(0));
        Due.is("6 DREAMS", 6, x.dream(5, 0));
        Due.is("12 answers again", 12, x.count(8));
        Due.is("the last one", 13, x.answer(11));
        Due.is("h was asked", 2, x.test(7, 2));
        Due.is("g was asked", 10, x.test(6, 2));
        Due.is("learnt", 9, x.stays(6, 0));
    }

    private static void emptyBook() {
        DreamTests x = Due.withBook("");
        Due.is("test(0, 0)", -1, x.test(0, 0));
        Due.is("dream(0, 0)", -1, x.dream(0, 0));
        Due.is("stays(0, -1)", -1, x.stays(0, -1));
        Due.is("ask(0, 1)", -1, x.ask(0, 1));
        Due.is("sleep()", 0, x.sleep());
        Due.is("undo() of it", 0, x.undo());
        Due.is("answer(0)", -1, x.answer(0));
        Due.same("sure", "1/1", Due.fraction(x::sure));
        Due.isThrown("odds(0, 0)", () -> x.odds(0, 0));
        Due.is("up()", 1, x.up());
        Due.is("likely()", -1, x.likely());
        Due.is("fits()", 1, x.fits());
        Due.is("enough()", 0, x.enough());
        Due.is("forger()", -1, x.forger());
        Due.same("error(0)", "0/1", Due.fraction(w -> x.error(0, w)));
        Due.isThrown("error(1)", () -> x.error(1, 0));
        Due.is("pair()", -1, x.pair());
        Due.same("cost(4)", "0/1", Due.fraction(w -> x.cost(4, w)));
        Due.is("first(4)", -1, x.first(4));
        Due.is("write(4)", 2, x.write(4));
        Due.same("what it wrote", "up", Due.madeText(x));
        Due.is("tree()", 0, Due.put(x, "bed").tree());
        Due.same("worth", "1/1", Due.fraction(x::worth));
        Due.is("leads()", 0, x.leads());
        Due.same("after(0)", "1/1", Due.fraction(w -> x.after(0, w)));
        Due.isThrown("after(1)", () -> x.after(1, 0));
        Due.isThrown("lot(0)", () -> x.lot(0));
        Due.isThrown("share(0, 0)", () -> x.share(0, 0));
        Due.is("next()", -1, x.next());
        Due.same("fails(0)", "0/1", Due.fraction(w -> x.fails(0, w)));
        Due.isThrown("fails(1)", () -> x.fails(1, 0));
        Due.same("deep(0)", "1/1", Due.fraction(w -> x.deep(0, w)));
        Due.same("deep(1)", "0/1", Due.fraction(w -> x.deep(1, w)));
        Due.isThrown("tells(0, 0)", () -> x.tells(0, 0));
        Due.is("apart(0, 0)", -1, x.apart(0, 0));
        Due.is("nights()", -1, Due.put(x, "in room;up;").nights());
        Due.is("nights() in bed", 1, Due.put(x, "in room;bed;").nights());
        Due.is("no DREAM to be in", -5, Due.put(x, "in k;").nights());
        Due.is("drawn(0, 3)", 0, x.drawn(0, 3));
        Due.is("drawn(1, 3)", -1, x.drawn(1, 3));
        Due.is("wrongs(60, 0, 3)", 0, x.wrongs(60, 0, 3));
        Due.is("wrongs(1, 1, 3)", -1, x.wrongs(1, 1, 3));
        said(x, "not good or place = 0");
    }

    private static void emptyDreams() {
        DreamTests x = Due.withBook("test a 5 9;late 0;wrong 99;");
        Due.is("up(), for nothing is late", 1, x.up());
        Due.is("a MOVES in the room", 1, x.ask(0, 0));
        Due.same("sure, whatever it does", "1/1", Due.fraction(x::sure));
        Due.is("dream(0, 1)", -1, x.dream(0, 1));
        Due.is("test(0, 3)", 0, x.test(0, 3));
        Due.is("stays(0, 0)", -1, x.stays(0, 0));
        Due.is("next()", 0, x.next());
        Due.is("nights()", -1, Due.put(x, "in room;a moves;up;").nights());
    }

    private static void emptyTests() {
        DreamTests x = Due.withBook("dream k 3;dream l 20;");
        Due.is("likely()", 1, x.likely());
        Due.is("forger() of no GOOD TESTS", 0, x.forger());
        Due.is("enough()", -1, x.enough());
        Due.is("next()", -1, x.next());
        Due.is("pair()", -1, x.pair());
        Due.is("apart(0, 1)", 0, x.apart(0, 1));
        Due.is("first(4)", -1, x.first(4));
        Due.same("error(0)", "1/24", Due.fraction(w -> x.error(0, w)));
        Due.is("drawn(0, 5) can be", true, x.drawn(0, 5) >= 0);
        Due.is("drawn(1, 5)", -1, x.drawn(1, 5));
        Due.is("wrongs(1, 1, 5)", -1, x.wrongs(1, 1, 5));
        Due.is("wrongs(1, 0, 5) can be", true, x.wrongs(1, 0, 5) >= 0);
        said(x, "not kept k");
    }

    /** Of all sets of eight TESTS those of five are the greatest. */
    private static void errorOfFive() {
        DreamTests x = Due.withBook("test a 9 0;test b 9 0;test c 9 0;test d 9 0;test e 9 0;test f 9 0;test g 9 0;"
            + "test h 9 0;dream k 1;");
        for (int set = 1; set < 256; set++) {
            int bits = set;
            if (Integer.bitCount(set) <= 5) {
                Due.is("error(" + set + ", 0)", 0, x.error(set, 0));
            } else {
                Due.isThrown("error(" + set + ")", () -> x.error(bits, 0));
            }
        }
        Due.isThrown("error(256)", () -> x.error(256, 0));
        Due.isThrown("error(-2147483648)", () -> x.error(Integer.MIN_VALUE, 0));
        DreamTests y = Due.withBook("test a 9 0;test b 9 0;test c 9 0;dream k 1;");
        Due.is("error(7, 1)", 1, y.error(7, 1));
        int[] none = {8, 9, 15, 1 << 30, Integer.MAX_VALUE, -1, -8};
        for (int set : none) {
            Due.isThrown("error(" + set + ") of three", () -> y.error(set, 0));
            Due.isThrown("fails(" + set + ") of three", () -> y.fails(set, 0));
        }
    }

    private static void afterAll() {
        DreamTests x = Due.withBook("test a 6 3;dream k 1;");
        long room = 1;
        long below = 2;
        for (int i = 0; i <= 12; i++) {
            int by = i;
            Due.same("after(" + i + ") of as many", room + "/" + below, Due.fraction(w -> x.after(by, w)));
            Due.same("sure behind " + i, room + "/" + below, Due.fraction(x::sure));
            Due.isThrown("after(" + (i + 1) + ")", () -> x.after(by + 1, 0));
            x.ask(0, 1);
            room *= 2;
            below = room + 1;
        }
        Due.same("after(0) still", "1/2", Due.fraction(w -> x.after(0, w)));
        Due.same("after(12)", "4096/4097", Due.fraction(w -> x.after(12, w)));
        x.sleep();
        Due.isThrown("after(1) of a new NIGHT", () -> x.after(1, 0));
    }

    /** 8 acts can be undone, the ninth behind them can not; what was undone makes room for as many. */
    private static void undoEight() {
        for (int acts = 0; acts <= 12; acts++) {
            DreamTests x = Due.withBook("test a 5 5;dream k 1;");
            for (int i = 0; i < acts; i++) {
                x.ask(0, i & 1);
            }
            int most = Math.min(acts, 8);
            for (int left = most - 1; left >= 0; left--) {
                Due.is("undo() of " + acts, left, x.undo());
                Due.is("answers left of " + acts, acts - most + left, x.count(8));
            }
            Due.is("no more of " + acts, -1, x.undo());
            Due.is("answers stay", acts - most, x.count(8));
        }
        DreamTests y = Due.withBook("test a 5 5;dream k 1;");
        for (int round = 0; round < 20; round++) {
            // The acts go round and round where they are kept
            y.sleep();
            y.ask(0, 1);
            y.ask(0, 0);
            Due.is("undo() in round " + round, Math.min(2 + 2 * round, 7), y.undo());
            Due.is("one answer in round " + round, 1, y.count(8));
        }
        for (int left = 6; left >= 0; left--) {
            Due.is("undo() behind the rounds", left, y.undo());
            Due.is("answers there", left % 2, y.count(8));
        }
        Due.is("no more behind the rounds", -1, y.undo());
    }

    /** sleep() without answers is an act as well, and drawn() without TESTS; what was not done is none. */
    private static void undoAcrossActs() {
        DreamTests x = Due.withBook("test a 5 5;test b 9 9;dream k 1;");
        x.ask(0, 1);
        x.sleep();
        x.sleep();
        x.drawn(0, 1);
        x.drawn(3, 1);
        x.ask(1, 0);
        x.ask(2, 0);
        x.drawn(13, 1);
        int[] answers = {0, 0, 0, 1, 0};
        for (int i = 0; i < answers.length; i++) {
            Due.is("undo() " + i, 4 - i, x.undo());
            Due.is("answers behind undo() " + i, answers[i], x.count(8));
        }
        Due.is("no more", -1, x.undo());
    }

    private static void drawnMost() {
        DreamTests x = Due.withBook("test a 5 5;test b 9 0;dream k 1;tired 12;");
        for (int n = 0; n <= 12; n++) {
            int where = x.drawn(n, 7 * n);
            Due.is("drawn(" + n + ")", true, where == 0 || where == 1);
            Due.is("answers of drawn(" + n + ")", n, x.count(8));
            Due.is("it fits", 1, x.fits() >> where & 1);
        }
        Due.is("the 12th STAYS", 1, x.answer(11) & 1);
        Due.is("drawn(13)", -1, x.drawn(13, 1));
        Due.is("drawn(-1)", -1, x.drawn(-1, 1));
        Due.is("12 answers", 12, x.count(8));
        Due.is("no more are asked", -1, x.ask(0, 1));
    }

    private static void wrongsMost() {
        DreamTests x = Due.withBook("test a 5 5;dream k 1;");
        DreamTests y = Due.withBook("test a 5 5;dream k 1;");
        int wrong = 0;
        for (int m = 1; m <= 60; m++) {
            // One GETS UP, whatever a does: wrongly, if it is a dream
            wrong += y.drawn(12, m - 1);
            Due.is("wrongs(" + m + ", 12, 0)", wrong, x.wrongs(m, 12, 0));
        }
        Due.is("some of them", true, wrong > 0 && wrong < 60);
        Due.is("wrongs(0)", -1, x.wrongs(0, 12, 0));
        Due.is("wrongs(61)", -1, x.wrongs(61, 12, 0));
        Due.is("wrongs(60, 13)", -1, x.wrongs(60, 13, 0));
        Due.is("wrongs(60, -1)", -1, x.wrongs(60, -1, 0));
        Due.is("no acts", -1, x.undo());
    }

    private static void judgedAheadOfAny() {
        DreamTests x = Due.withBook("test a 5 5;dream k 1;");
        for (int what = -1; what <= 3; what++) {
            Due.is("ahead of any, judged(" + what + ")", -1, x.judged(what));
        }
        Due.put(x, "in k;a stays").nights();
        Due.is("with a FAULT it is none", -1, x.judged(0));
        Due.put(x, "").nights();
        int[] want = {-1, 0, 0, 0, -1};
        for (int what = -1; what <= 3; what++) {
            Due.is("of no LINES, judged(" + what + ")", want[what + 1], x.judged(what));
        }
        Due.put(x, "in k;a stays;in room;a moves;a stays;bed;in k;a stays;").nights();
        int[] wrong = {3, 2, 3};
        for (int what = 0; what <= 2; what++) {
            Due.is("up to it, judged(" + what + ")", wrong[what], x.judged(what));
        }
    }

    private static void leadsAtItsEnds() {
        DreamTests x = Due.withBook("test a 5 5;test b 5 5;test c 5 5;test d 5 5;dream k 1;");
        Due.is("no TREE", -1, x.leads());
        Due.put(x, "a(up;b(bed;c(up;d(bed;up))))").tree();
        int[] tests = {0, 1, 2, 3};
        int[] ends = {1, 0, 1, 0};
        for (int i = 0; i < tests.length; i++) {
            Due.is("asks", 10 + i, x.leads());
            x.ask(tests[i], 1);
            Due.is("ends", ends[i], x.leads());
            x.ask(tests[i], 1);
            Due.is("more than it asks", -2, x.leads());
            x.undo();
            x.undo();
            x.ask((i + 1) % 4, 0);
            Due.is("not its TEST", -2, x.leads());
            x.undo();
            x.ask(tests[i], 0);
        }
        Due.is("the last end", 1, x.leads());
        for (int i = 5; i <= 12; i++) {
            x.ask(0, 1);
            Due.is("more than it asks, " + i, -2, x.leads());
        }
    }

    private static void byteAtItsEnds() {
        DreamTests x = Due.withBook("test a 9 0;dream k 1;late 2;");
        Due.is("ahead of any", -1, x.byteAt(0));
        int[] sizes = {2, 14, 14};
        for (int n = 0; n < sizes.length; n++) {
            Due.is("write(" + n + ")", sizes[n], x.write(n));
            Due.is("the last byte", true, x.byteAt(sizes[n] - 1) > 32);
            Due.is("behind it", -1, x.byteAt(sizes[n]));
            Due.is("ahead of it", -1, x.byteAt(-1));
        }
        Due.is("a shorter one", 2, x.write(0));
        Due.is("its last byte", 'p', x.byteAt(1));
        Due.is("nothing of the longer one", -1, x.byteAt(2));
    }

    private static void imagesOfNothing() {
        DreamTests x = new DreamTests();
        Due.is("restore(0)", false, x.restore(0));
        Due.is("restore(1)", false, x.restore(1));
        Due.is("image(1)", true, x.image(1));
        Due.is("restore(0) yet", false, x.restore(0));
        Due.put(x, "test a 5 5;").book();
        x.ask(0, 1);
        Due.is("restore(1)", true, x.restore(1));
        Due.is("an empty BOOK", 0, x.count(0));
        Due.is("nothing to undo", -1, x.undo());
        Due.is("image(2)", false, x.image(2));
        Due.is("image(-1)", false, x.image(-1));
        Due.is("restore(2)", false, x.restore(2));
        Due.is("restore(-1)", false, x.restore(-1));
    }

    /** An object is used for 512 calls; the last one is as good as the first. */
    private static void mostCalls() {
        DreamTests x = new DreamTests();
        // 6 bytes: one feed(), and end() twice
        Due.put(x, "learn;");
        int calls = 3;
        while (calls + 5 <= 511) {
            Due.is("book() ahead of call " + calls, 1, x.book());
            Due.put(x, "learn;");
            Due.is("its bytes", 6, x.count(9));
            calls += 5;
        }
        Due.is("book() by the last calls", 1, x.book());
        calls++;
        while (calls < 511) {
            x.sleep();
            calls++;
        }
        Due.is("the 512th", 1, x.count(7));
    }
}
