import java.util.function.IntToLongFunction;

/** The edges that parts 2 and 3 of the document name, sentence by sentence. */
public final class RulesEdgeTest {
    private RulesEdgeTest() {
    }

    public static void main(String[] args) {
        mostAnswers();
        oddsOfNine();
        learntInThisNight();
        tiredFromTheNth();
        tiredTellsNothing();
        sureOfTheRoom();
        getsUpIfNoWorse();
        sureOrMore();
        wrongKinds();
        actsByTheRule();
        goodTests();
        enoughTests();
        errorOfLikeOnes();
        leastCostOfLikeOnes();
        mostAsked();
        lotOfLikeWays();
        fit();
        nextOfLikeOnes();
        deep();
        drawnByWeights();
        drawnByOdds();
        seedsWrapAround();
        leastTerms();
        newBook();
        Due.done("RulesEdgeTest");
    }

    private static void fraction(String what, long above, long below, IntToLongFunction call) {
        long a = above;
        long b = below;
        while (a != 0) {
            long rest = b % a;
            b = a;
            a = rest;
        }
        Due.same(what, above / b + "/" + below / b, Due.fraction(call));
    }

    private static void nights(String book, String text, int line, int why) {
        DreamTests x = Due.withBook(book);
        Due.is("nights() of '" + text + "' by '" + book + "'", line, Due.put(x, text).nights());
        Due.is("why '" + text + "' is WRONG by '" + book + "'", why, x.judged(0));
    }

    /** 12 TESTS at most are asked in a night. */
    private static void mostAnswers() {
        DreamTests x = Due.withBook("test a 5 5;test b 5 5;dream k 1;");
        for (int night = 0; night < 2; night++) {
            for (int i = 1; i <= 12; i++) {
                Due.is("ask() " + i, i, x.ask(i % 2, i / 2 % 2));
            }
            for (int test = 0; test < 2; test++) {
                Due.is("a 13th STAYS", -1, x.ask(test, 1));
                Due.is("a 13th MOVES", -1, x.ask(test, 0));
            }
            Due.is("12 stand", 12, x.count(8));
            Due.is("the 12th", 0, x.answer(11));
            Due.is("the 11th", 3, x.answer(10));
            Due.is("no 13th", -1, x.answer(12));
            Due.is("half of them are a", 6, x.test(0, 2));
            Due.is("a new night", 12, x.sleep());
        }
    }

    /** By 0 of 9 a TEST never STAYS, by 9 of 9 always. */
    private static void oddsOfNine() {
        for (int odds = 0; odds <= 9; odds++) {
            DreamTests x = Due.withBook("test a " + odds + " " + odds + ";dream k 1;");
            Due.is("MOVES by " + odds, odds == 9 ? -1 : 1, x.ask(0, 0));
            x.sleep();
            Due.is("STAYS by " + odds, odds == 0 ? -1 : 1, x.ask(0, 1));
            int by = odds;
            x.sleep();
            fraction("tells by " + odds, by, 9, w -> x.tells(0, w));
        }
    }

    /** By 'learn' its ROOM in a DREAM, if the TEST was asked in this night already: not before, not by another one. */
    private static void learntInThisNight() {
        DreamTests x = Due.withBook("test a 7 2;test b 6 3;dream k 1;dream l 1 a;learn;");
        DreamTests y = Due.withBook("test a 7 2;test b 6 3;dream k 1;dream l 1 a;");
        int[] want = {2, 7};
        for (int asked = 0; asked <= 1; asked++) {
            Due.is("a in k, asked " + asked, want[asked], x.stays(0, 0));
            Due.is("b in k, a was asked", 3, x.stays(1, 0));
            Due.is("a in l, which keeps it", 7, x.stays(0, 1));
            Due.is("a in the room", 7, x.stays(0, -1));
            Due.is("without 'learn'", 2, y.stays(0, 0));
            x.ask(0, 0);
            y.ask(0, 0);
        }
        x.sleep();
        Due.is("in a new night", 2, x.stays(0, 0));
        x.undo();
        Due.is("in the night as it was", 7, x.stays(0, 0));
        x.undo();
        x.undo();
        Due.is("ahead of it", 2, x.stays(0, 0));
    }

    /** By 'tired' N above 0 the N-th one of a night and all behind it STAY for sure; by 0 none does. */
    private static void tiredFromTheNth() {
        for (int n = 0; n <= 12; n++) {
            DreamTests x = Due.withBook("test a 5 4;dream k 1;dream l 1 a;tired " + n + ";");
            for (int i = 1; i <= 12; i++) {
                boolean tired = n > 0 && i >= n;
                String which = " for the one " + i + " by 'tired' " + n;
                Due.is("in the room" + which, tired ? 9 : 5, x.stays(0, -1));
                Due.is("in k" + which, tired ? 9 : 4, x.stays(0, 0));
                Due.is("in l" + which, tired ? 9 : 5, x.stays(0, 1));
                if (tired) {
                    Due.is("it can't MOVE" + which, -1, x.ask(0, 0));
                    Due.is("it STAYS" + which, i, x.ask(0, 1));
                } else {
                    Due.is("it MOVES" + which, i, x.ask(0, 0));
                }
            }
            x.sleep();
            Due.is("in a new night by 'tired' " + n, n == 1 ? 9 : 5, x.stays(0, -1));
        }
    }

    /** What STAYS for sure leaves all odds as they were. */
    private static void tiredTellsNothing() {
        DreamTests x = Due.withBook("test a 9 0;dream k 3;room 2;tired 2;");
        DreamTests y = Due.withBook("test a 0 9;dream k 3;room 2;tired 1;");
        y.ask(0, 1);
        Due.same("tired from the first", "2/5", Due.fraction(y::sure));
        x.ask(0, 0);
        x.ask(0, 1);
        Due.same("it MOVED once: a dream", "0/1", Due.fraction(x::sure));
        fraction("it STAYS for sure now", 1, 1, w -> x.tells(0, w));
    }

    private static void sureOfTheRoom() {
        Due.same("without DREAMS", "1/1", Due.fraction(Due.withBook("room 20;")::sure));
        for (int room = 1; room <= 20; room += 19) {
            for (int dream = 1; dream <= 20; dream += 19) {
                DreamTests x = Due.withBook("test a 9 0;test b 0 9;room " + room + ";dream k " + dream + ";dream l 1 a;");
                fraction("at first", room, room + dream + 1, x::sure);
                x.ask(0, 1);
                fraction("a STAYED: no k", room, room + 1, x::sure);
                x.ask(1, 0);
                fraction("b MOVED: the room alone", 1, 1, x::sure);
                x.sleep();
                x.ask(1, 1);
                fraction("b STAYED: not the room", 0, 1, x::sure);
            }
        }
    }

    /** One GETS UP, if 'wrong' times the odds of dreams is 'late' times those of the room at most. */
    private static void getsUpIfNoWorse() {
        int[] costs = {0, 1, 2, 3, 98, 99};
        int[] weights = {1, 2, 3, 19, 20};
        for (int late : costs) {
            for (int wrong : costs) {
                for (int room : weights) {
                    for (int dream : weights) {
                        DreamTests x = Due.withBook("dream k " + dream + ";room " + room + ";late " + late + ";wrong "
                            + wrong + ";");
                        Due.is("up() by " + late + ", " + wrong + ", " + room + ", " + dream,
                            wrong * dream <= late * room ? 1 : 0, x.up());
                    }
                }
            }
        }
        Due.is("without DREAMS", 1, Due.withBook("late 0;wrong 99;").up());
        DreamTests many = Due.withBook("dream a 1;dream b 1;dream c 1;dream d 1;dream e 1;dream f 1;room 6;");
        Due.is("by all DREAMS together", 1, many.up());
        DreamTests more = Due.withBook("dream a 1;dream b 1;dream c 1;dream d 1;dream e 1;dream f 2;room 6;");
        Due.is("by one more", 0, more.up());
    }

    /** 'sure' of 9 or more, whichever of the two one is wrongly sure of: as much as it, one less, one more. */
    private static void sureOrMore() {
        for (int sure = 5; sure <= 9; sure++) {
            for (int room = 1; room <= 20; room++) {
                for (int dream = 1; dream <= 20; dream++) {
                    String book = "test z 5 5;dream k " + dream + ";room " + room + ";sure " + sure + ";";
                    boolean sureOfRoom = 9 * room >= sure * (room + dream);
                    boolean sureOfDreams = 9 * dream >= sure * (room + dream);
                    nights(book, "in k;z stays;", sureOfRoom ? 1 : -1, sureOfRoom ? 2 : 0);
                    nights(book, "in room;z moves;", sureOfDreams ? 1 : -1, sureOfDreams ? 2 : 0);
                }
            }
        }
        String book = "test z 5 5;test a 9 0;dream k 4;dream l 4 a;room 1;sure ";
        nights(book + "8;", "in room;z stays;", 1, 2);
        nights(book + "9;", "in room;z stays;", -1, 0);
        // One who takes one DREAM for another one is not wrongly sure
        nights(book + "8;", "in k;z stays;z stays;", -1, 0);
        // By 9 of 9 one is never wrongly sure: where one is can always be
        nights("test a 9 1;dream k 1;room 20;sure 9;", "in k;a stays;a stays;", -1, 0);
    }

    /** WRONG: the first LINE that is, and of its kinds the least. */
    private static void wrongKinds() {
        String book = "test a 9 0;test z 5 5;dream k 1;dream l 1 a;room 1;sure 5;";
        nights(book, "in k;a stays;", 1, 1);
        nights(book, "in room;a moves;", 1, 1);
        nights(book, "in l;a moves;", 1, 1);
        // In the room one is sure by 6 of 9 that one dreams, until a STAYS
        nights(book, "in room;z stays;", 1, 2);
        nights(book, "in room;a stays;z stays;", -1, 0);
        nights(book, "in k;z stays;a stays;bed;", 2, 1);
        nights(book, "in k;up;a stays;", 1, 3);
        nights(book, "in k;bed;a moves;bed;up;", 4, 3);
    }

    private static void actsByTheRule() {
        for (int room = 1; room <= 4; room++) {
            String book = "test z 5 5;dream k 2;room " + room + ";late 2;wrong 3;sure 9;";
            // 3 times 2 is 2 times 3
            boolean up = room >= 3;
            nights(book, "in k;up;", up ? -1 : 1, up ? 0 : 3);
            nights(book, "in k;bed;", up ? 1 : -1, up ? 3 : 0);
            nights(book, "in k;z stays;up;", up ? -1 : 2, up ? 0 : 3);
            nights(book, "in room;z moves;bed;", up ? 2 : -1, up ? 3 : 0);
        }
    }

    /** GOOD is a TEST with ROOM 9 and DREAM 0, and no other one. */
    private static void goodTests() {
        for (int room = 0; room <= 9; room++) {
            for (int dream = 0; dream <= 9; dream++) {
                DreamTests x = Due.withBook("test a " + room + " " + dream + ";dream k 1;");
                boolean good = room == 9 && dream == 0;
                Due.is("enough by " + room + " " + dream, good ? 1 : -1, x.enough());
                Due.is("forger by " + room + " " + dream, good ? -1 : 0, x.forger());
                Due.put(x, "good").sentence();
                Due.is("'good' by " + room + " " + dream, good ? 1 : 0, x.said(-1));
            }
        }
    }

    /** The fewest TESTS, none without DREAMS, of like ones the least as bits. */
    private static void enoughTests() {
        String good = "test a 9 0;test b 9 0;test c 9 0;test d 9 0;";
        Due.is("none without DREAMS", 0, Due.withBook(good).enough());
        Due.is("none at all", 0, Due.withBook("").enough());
        Due.is("a DREAM and no TESTS", -1, Due.withBook("dream k 1;").enough());
        Due.is("the least", 1, Due.withBook(good + "dream k 1;").enough());
        Due.is("the least that does", 4, Due.withBook(good + "dream k 1 a b;").enough());
        Due.is("the last one", 8, Due.withBook(good + "dream k 1 a b c;").enough());
        Due.is("each is kept", -1, Due.withBook(good + "dream k 1;dream l 1 a b c d;").enough());
        Due.is("fewer ahead of less", 8, Due.withBook(good + "dream k 1 a b;dream l 1 c b;dream m 1 a c;").enough());
        Due.is("two of like ones", 3,
            Due.withBook(good + "dream k 1 a c;dream l 1 b d;").enough());
        Due.is("5 is ahead of 6", 5, Due.withBook(good + "dream k 1 a b d;dream l 1 c d;dream m 1 d b;").enough());
        Due.is("all four", 15, Due.withBook(good
            + "dream k 1 a b c;dream l 1 b c d;dream m 1 c d a;dream n 1 d a b;").enough());
        Due.is("all four by the first keeper", -1, Due.withBook(good + "dream k 1 d c b a;").enough());
    }

    /** What is as likely as the other one is no matter: the ERROR is the same. */
    private static void errorOfLikeOnes() {
        DreamTests x = Due.withBook("test a 5 5;test b 9 0;test c 0 9;dream k 1;");
        Due.same("as likely as not", "1/2", Due.fraction(w -> x.error(0, w)));
        Due.same("a tells nothing", "1/2", Due.fraction(w -> x.error(1, w)));
        Due.same("b tells all", "0/1", Due.fraction(w -> x.error(2, w)));
        Due.same("c too", "0/1", Due.fraction(w -> x.error(5, w)));
        Due.same("without DREAMS", "0/1", Due.fraction(w -> Due.withBook("test a 5 5;").error(1, w)));
        Due.is("of like pairs the first", 1, x.pair());
        Due.is("of two TESTS", 1, Due.withBook("test a 5 5;test b 5 5;").pair());
        Due.is("of one", -1, Due.withBook("test a 5 5;").pair());
        Due.is("of none", -1, Due.withBook("").pair());
        Due.is("the last of 28", 67, Due.withBook("test a 5 5;test b 5 5;test c 5 5;test d 5 5;test e 5 5;test f 5 5;"
            + "test g 9 0;test h 9 0;dream k 1 g;dream l 1 h;room 2;").pair());
    }

    /** Of like TESTS the first; none, if asking none is as good. */
    private static void leastCostOfLikeOnes() {
        DreamTests x = Due.withBook("test a 5 5;test b 8 1;test c 1 8;test d 8 1;dream k 1;");
        Due.is("b is ahead of its like", 1, x.first(1));
        DreamTests y = Due.withBook("test a 5 5;test b 4 4;dream k 1;");
        for (int n = 0; n <= 4; n++) {
            Due.is("asking none is as good by " + n, -1, y.first(n));
            int by = n;
            Due.same("and costs by " + n, "1/2", Due.fraction(w -> y.cost(by, w)));
        }
        // Whatever it answers, the room is likelier still
        Due.is("no answer changes it", -1, Due.withBook("test a 5 4;dream k 1;room 20;").first(1));
        DreamTests up = Due.withBook("dream k 1;");
        up.write(0);
        Due.same("'up', if that costs no more", "up", Due.madeText(up));
        DreamTests bed = Due.withBook("dream k 2;");
        bed.write(0);
        Due.same("'bed', if it costs less", "bed", Due.madeText(bed));
        DreamTests free = Due.withBook("test a 9 0;dream k 1;late 0;wrong 0;");
        free.write(4);
        Due.same("no cost: 'up' at once", "up", Due.madeText(free));
    }

    /** 0 to 4 TESTS are asked, each once, of 6 at most. */
    private static void mostAsked() {
        String six = "test a 6 3;test b 6 3;test c 6 3;test d 6 3;test e 6 3;test f 6 3;dream k 1;";
        DreamTests x = Due.withBook(six);
        // Of n answers the fewer ones are right: by 2 and 4, 6 and 18, 14 and 54, 42 and 162
        long[] wrong = {1, 2, 6, 14, 42};
        long[] below = {2, 6, 18, 54, 162};
        for (int n = 0; n <= 4; n++) {
            int by = n;
            fraction("cost(" + n + ") of six", wrong[n], below[n], w -> x.cost(by, w));
            Due.is("first(" + n + ") of six", n == 0 ? -1 : 0, x.first(n));
            Due.is("write(" + n + ") of six", true, x.write(n) > 0);
        }
        int[] never = {-1, 5, Integer.MIN_VALUE, Integer.MAX_VALUE};
        for (int n : never) {
            Due.isThrown("cost(" + n + ")", () -> x.cost(n, 0));
            Due.is("first(" + n + ")", -1, x.first(n));
            Due.is("write(" + n + ")", -1, x.write(n));
        }
        DreamTests y = Due.withBook(six + "test g 6 3;");
        for (int n = 0; n <= 4; n++) {
            int by = n;
            Due.isThrown("cost(" + n + ") of seven", () -> y.cost(by, 0));
            Due.is("first(" + n + ") of seven", -1, y.first(n));
            Due.is("write(" + n + ") of seven", -1, y.write(n));
        }
        Due.is("no text of seven", -1, y.byteAt(0));
    }

    /** LOT: two TESTS that ever MOVE are the fewest; of like ways the one with most TESTS. */
    private static void lotOfLikeWays() {
        for (int dream = 0; dream <= 9; dream++) {
            DreamTests x = Due.withBook("test a 1 0;test b 1 " + dream + ";");
            if (dream == 9) {
                Due.isThrown("one that MOVES", () -> x.lot(0));
                Due.isThrown("the share of one that MOVES", () -> x.share(0, 0));
                continue;
            }
            int moves = 9 - dream;
            fraction("9 and " + moves, moves, 9 + moves, x::lot);
            fraction("share of 9", moves, 9 + moves, w -> x.share(0, w));
            fraction("share of " + moves, 9, 9 + moves, w -> x.share(1, w));
        }
        // With two that MOVE by m each it is half of m: a third one by half of m makes a like way, by less none
        for (int moves = 2; moves <= 8; moves += 2) {
            for (int less = -1; less <= 1; less++) {
                int third = moves / 2 + less;
                if (third == 0) {
                    continue;
                }
                DreamTests x = Due.withBook("test a 1 " + (9 - moves) + ";test c 1 " + (9 - third) + ";test b 1 "
                    + (9 - moves) + ";");
                int asked = less < 0 ? 0 : 1;
                int all = 2 * third + asked * moves;
                fraction("share of " + third + " by " + moves, asked * moves, all, w -> x.share(1, w));
                fraction("share of " + moves + " by " + third, third, all, w -> x.share(2, w));
                fraction("lot of " + third + " by " + moves, (1 + asked) * moves * third, 9 * all, x::lot);
            }
        }
    }

    private static void fit() {
        String book = "test a 9 0;test b 0 9;dream u 1;dream v 1 a;dream w 1 b;dream x 1 a b;dream y 1 b a;dream z 1;";
        DreamTests x = Due.withBook(book);
        Due.is("all", 127, x.fits());
        x.ask(0, 1);
        Due.is("a STAYED", 1 | 4 | 16 | 32, x.fits());
        x.ask(1, 0);
        Due.is("b MOVED", 1 | 16 | 32, x.fits());
        x.sleep();
        x.ask(0, 0);
        Due.is("a MOVED", 2 | 8 | 64, x.fits());
        x.ask(1, 1);
        Due.is("b STAYED", 2 | 64, x.fits());
        Due.is("of like ones the first", 0, x.likely());
        Due.is("a can't have STAYED", -1, x.ask(0, 1));
    }

    private static void nextOfLikeOnes() {
        Due.is("no TESTS", -1, Due.withBook("dream k 1;").next());
        Due.is("all alike", 0, Due.withBook("test a 5 5;test b 3 3;dream k 1;").next());
        Due.is("without DREAMS", 0, Due.withBook("test a 5 5;test b 9 0;").next());
        Due.is("the first of two", 1, Due.withBook("test a 5 5;test b 8 1;test c 1 8;dream k 1;").next());
        // 8 of the room or dreams count alike
        Due.is("a dream is told as well", 1, Due.withBook("test a 4 5;test b 0 9;dream k 1;").next());
        // With the room by 3: b 15, or 12 and 9, makes 27; a 27, and 5 makes 32
        Due.is("greatest in the mean", 1, Due.withBook("test b 5 0;test a 9 4;dream k 1;room 3;").next());
        Due.is("of dreams too", 1, Due.withBook("test b 0 5;test a 4 9;dream k 3;room 1;").next());
        DreamTests last = Due.withBook("test a 5 5;test b 5 5;test c 5 5;test d 5 5;test e 5 5;test f 5 5;test g 5 5;"
            + "test h 5 4;dream k 1;");
        Due.is("the last one", 7, last.next());
        for (int i = 0; i < 12; i++) {
            Due.is("ahead of the one " + (i + 1), true, last.next() >= 0);
            last.ask(0, 1);
        }
        Due.is("12 were asked", -1, last.next());
        last.undo();
        Due.is("one was undone", 7, last.next());
    }

    private static void deep() {
        DreamTests x = Due.withBook("dream k 2;dream l 1;room 1;");
        long above = 1;
        long below = 1;
        for (int n = 0; n <= 8; n++) {
            int by = n;
            fraction("deep(" + n + ")", above, below, w -> x.deep(by, w));
            above *= 3;
            below *= 4;
        }
        int[] never = {-1, 9, Integer.MIN_VALUE, Integer.MAX_VALUE};
        for (int n : never) {
            Due.isThrown("deep(" + n + ", 0)", () -> x.deep(n, 0));
            Due.isThrown("deep(" + n + ", 1)", () -> x.deep(n, 1));
        }
        DreamTests y = Due.withBook("room 20;");
        Due.same("no waking, no DREAMS", "1/1", Due.fraction(w -> y.deep(0, w)));
        Due.same("eight wakings, no DREAMS", "0/1", Due.fraction(w -> y.deep(8, w)));
    }

    private static int draw(int x, int n) {
        return (x >>> 8) % n;
    }

    private static int goOn(int x) {
        return x * 1103515245 + 12345;
    }

    /** A draw of all WEIGHTS, the room ahead: each place by as many draws as its WEIGHT has. */
    private static void drawnByWeights() {
        DreamTests x = Due.withBook("dream a 1;dream b 2;dream c 1;dream d 20;dream e 1;dream f 3;room 2;");
        int[] places = {0, 0, 1, 2, 2, 3, 4, 4, 4, 4, 4, 4, 4, 4, 4, 4, 4, 4, 4, 4, 4, 4, 4, 4, 4, 4, 5, 6, 6, 6};
        int seen = 0;
        for (int i = 0; i < 200; i++) {
            int seed = i * 99991;
            int drawn = draw(goOn(seed), places.length);
            Due.is("by seed " + seed + ", draw " + drawn, places[drawn], x.drawn(0, seed));
            Due.is("no answers", 0, x.count(8));
            seen |= 1 << drawn;
        }
        Due.is("each draw came", (1 << places.length) - 1, seen);
        Due.is("the room alone", 0, Due.withBook("").drawn(0, 77));
    }

    /** Of 9: below its odds it STAYS; at them it MOVES. */
    private static void drawnByOdds() {
        for (int odds = 0; odds <= 9; odds++) {
            DreamTests x = Due.withBook("test a " + odds + " 0;");
            for (int seed = 0; seed < 36; seed++) {
                int s = goOn(seed);
                x.drawn(12, seed);
                for (int i = 0; i < 12; i++) {
                    s = goOn(goOn(s));
                    Due.is("answer " + i + " by " + odds, draw(s, 9) < odds ? 1 : 0, x.answer(i));
                }
            }
        }
        DreamTests y = Due.withBook("test a 9 0;test b 9 0;test c 9 0;test d 9 0;test e 9 0;test f 9 0;test g 9 0;"
            + "test h 9 0;tired 12;");
        int seen = 0;
        for (int seed = 0; seed < 40; seed++) {
            Due.is("in the room", 0, y.drawn(1, seed));
            Due.is("a draw of 8 TESTS", 2 * draw(goOn(goOn(seed)), 8) + 1, y.answer(0));
            seen |= 1 << y.answer(0) / 2;
        }
        Due.is("each TEST came", 255, seen);
    }

    /** x is an int and wraps; the seeds of wrongs() wrap as well. */
    private static void seedsWrapAround() {
        DreamTests x = Due.withBook("dream k 1;wrong 2;");
        int[] seeds = {0, -1, 1, Integer.MAX_VALUE, Integer.MIN_VALUE, Integer.MAX_VALUE - 1, 0x40000000, -12345};
        for (int seed : seeds) {
            Due.is("drawn(0, " + seed + ")", draw(goOn(seed), 2), x.drawn(0, seed));
            int room = 0;
            for (int i = 0; i < 60; i++) {
                // One stays in bed, by the WEIGHTS: wrongly, if it is the room
                room += 1 - draw(goOn(seed + i), 2);
                Due.is("wrongs(" + (i + 1) + ", 0, " + seed + ")", room, x.wrongs(i + 1, 0, seed));
            }
        }
    }

    /** Fractions are told in least terms, and 1 or more below. */
    private static void leastTerms() {
        DreamTests x = Due.withBook("test a 6 3;test b 9 0;dream k 4;dream l 2 b;room 6;late 4;wrong 8;");
        Due.same("sure", "1/2", Due.fraction(x::sure));
        Due.same("odds", "1/6", Due.fraction(w -> x.odds(1, w)));
        Due.same("after", "1/2", Due.fraction(w -> x.after(0, w)));
        Due.same("tells", "1/2", Due.fraction(w -> x.tells(0, w)));
        Due.same("fails", "1/3", Due.fraction(w -> x.fails(1, w)));
        Due.same("fails never", "0/1", Due.fraction(w -> x.fails(2, w)));
        Due.same("error", "1/3", Due.fraction(w -> x.error(1, w)));
        Due.same("cost", "2/1", Due.fraction(w -> x.cost(0, w)));
        Due.same("deep", "1/16", Due.fraction(w -> x.deep(4, w)));
        Due.same("lot", "2/5", Due.fraction(x::lot));
        Due.same("share", "3/5", Due.fraction(w -> x.share(0, w)));
        Due.put(x, "b(up;bed)").tree();
        Due.same("worth", "4/3", Due.fraction(x::worth));
    }

    /** A new BOOK: no answers, no TREE, no SENTENCE, nothing to undo; the text made last and what was judged stay. */
    private static void newBook() {
        DreamTests x = Due.withBook("test a 9 0;dream k 1;");
        x.ask(0, 1);
        x.drawn(2, 1);
        x.write(1);
        Due.put(x, "in k;a stays;").nights();
        Due.put(x, "up").tree();
        Due.put(x, "good").sentence();
        Due.put(x, "test a 9 0;dream k 1;").book();
        Due.is("no answers", 0, x.count(8));
        Due.is("a was not asked", 0, x.test(0, 2));
        Due.is("no TREE", -1, x.leads());
        Due.isThrown("no TREE, worth", () -> x.worth(0));
        Due.is("no SENTENCE", -1, x.said(-1));
        Due.is("nothing to undo", -1, x.undo());
        Due.same("the text made last", "a ( up ; bed )", Due.madeText(x));
        Due.is("why, as judged last", 1, x.judged(0));
        Due.is("the latest FAULT", 0, x.fault());
    }
}
