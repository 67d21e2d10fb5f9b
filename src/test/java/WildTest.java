import java.util.NoSuchElementException;
import java.util.Random;

/** Calls and texts at random: nothing is thrown but what the document names, and FAULTS are the first along a text. */
public final class WildTest {
    private static final String[] WORDS = {"test", "dream", "room", "tired", "sure", "late", "wrong", "learn", "in",
        "stays", "moves", "up", "bed", "or", "and", "not", "good", "kept", "asked", "rooms", "dreams", "place",
        "a", "b", "c", "d", "e", "k", "l", "zz", "abcdefgh", "a1", "0", "1", "9", "10", "20", "21", "100",
        ";", ";", ";", "<", "=", ">", "(", "(", ")", ")", ".", "#", "A", "\t"};
    private static final String[] PARTS = {"test a 9 0;", "test b 8 2;", "dream k 1 a;", "dream l 20;", "room 3;",
        "tired 2;", "sure 5;", "late 99;", "wrong 0;", "learn;", "in room;", "in k;", "a stays;", "b moves;", "up;",
        "bed;", "up", "bed", "a(", "b(", "up;bed)", ")", ";", "good", " or ", " and ", "not ", "(", "asked", "kept k",
        "rooms<9", "dreams=0", "place>0"};
    private static final int[] EDGES = {Integer.MIN_VALUE, Integer.MIN_VALUE + 1, -1000, -9, -2, -1, 0, 1, 2, 3, 4, 5, 6,
        7, 8, 9, 10, 11, 12, 13, 20, 31, 32, 33, 63, 64, 255, 256, 400, 900, 940, 1000, Integer.MAX_VALUE - 1,
        Integer.MAX_VALUE};

    private static int called;

    private WildTest() {
    }

    public static void main(String[] args) {
        for (int seed = 0; seed < 4000; seed++) {
            calls(new Random(seed));
        }
        for (int seed = 0; seed < 6000; seed++) {
            faults(new Random(seed), seed);
        }
        Due.done("WildTest");
    }

    private static void calls(Random random) {
        DreamTests x = new DreamTests();
        // An object is used for 512 calls; a text comes by 50 at most, and four are made in each round
        called = 0;
        while (called <= 512 - 55) {
            int call = random.nextInt(46);
            called += 4;
            try {
                call(x, call, random);
            } catch (NoSuchElementException e) {
                boolean may = call == 13 || call == 14 || call == 20 || call == 22 || call == 27
                    || call >= 29 && call <= 31 || call >= 33 && call <= 35;
                Due.is("call " + call + " may throw", true, may);
            }
            int bytes = x.count(9);
            Due.is("a tape of 0 to 940 bytes", true, bytes >= 0 && bytes <= 940);
            long room = x.sure(0);
            long all = x.sure(1);
            Due.is("an odds of the room", true, all >= 1 && room >= 0 && room <= all);
        }
    }

    private static int any(Random random) {
        return random.nextInt(3) == 0 ? EDGES[random.nextInt(EDGES.length)] : random.nextInt(8) - 1;
    }

    private static long call(DreamTests x, int call, Random random) {
        int a = any(random);
        int b = any(random);
        switch (call) {
            case 2: return x.feed(random.nextInt(), a, b, random.nextInt(), 0x20202020);
            case 3: return x.end(a) ? 1 : 0;
            case 4: return text(x, random).book();
            case 5: return x.fault();
            case 6: return x.test(a, b);
            case 7: return x.dream(a, b);
            case 8: return x.stays(a, b);
            case 9: return x.ask(a, random.nextInt(5) == 0 ? b : random.nextInt(2));
            case 10: return x.sleep();
            case 11: return x.answer(a);
            case 12: return x.undo();
            case 13: return x.sure(a);
            case 14: return x.odds(a, b);
            case 15: return x.up();
            case 16: return x.likely();
            case 17: return x.fits();
            case 18: return x.enough();
            case 19: return x.forger();
            case 20: return x.error(a, b);
            case 21: return x.pair();
            case 22: return x.cost(a, b);
            case 23: return x.first(a);
            case 24: return x.write(a);
            case 25: return x.byteAt(a);
            case 26: return text(x, random).tree();
            case 27: return x.worth(a);
            case 28: return x.leads();
            case 29: return x.after(a, b);
            case 30: return x.lot(a);
            case 31: return x.share(a, b);
            case 32: return x.next();
            case 33: return x.fails(a, b);
            case 34: return x.deep(a, b);
            case 35: return x.tells(a, b);
            case 36: return x.apart(a, b);
            case 37: return text(x, random).nights();
            case 38: return x.judged(a);
            case 39: return x.drawn(a, random.nextInt());
            case 40: return x.wrongs(a, b, random.nextInt());
            case 41: return text(x, random).sentence();
            case 42: return x.said(a);
            case 43: return x.image(a) ? 1 : 0;
            case 44: return x.restore(a) ? 1 : 0;
            default: return x.count(a);
        }
    }

    private static DreamTests text(DreamTests x, Random random) {
        if (random.nextInt(8) == 0) {
            return x;
        }
        String text = wild(random);
        called += 2 + (text.length() + 19) / 20;
        return Due.put(x, text);
    }

    private static String wild(Random random) {
        StringBuilder text = new StringBuilder();
        boolean parts = random.nextInt(4) > 0;
        int many = random.nextInt(random.nextInt(10) == 0 ? 150 : 15);
        for (int i = 0; i < many; i++) {
            boolean part = parts && random.nextInt(12) > 0;
            text.append(part ? PARTS[random.nextInt(PARTS.length)] : WORDS[random.nextInt(WORDS.length)]);
            text.append(part ? "" : " ");
            if (random.nextInt(200) == 0) {
                text.append(" ".repeat(random.nextInt(500)));
            }
        }
        if (text.length() > 940) {
            text.setLength(940);
        }
        return text.toString();
    }

    private static DreamTests fresh() {
        return Due.withBook("test a 9 0;test b 8 2;test c 3 4;test d 1 1;test e 0 0;dream k 1 a;dream l 20;");
    }

    /** Where the FAULT of a text is, or NONE; the kind is told by fault(). */
    private static int faultAt(DreamTests x, int reader, String text) {
        Due.put(x, text);
        int told = reader == 0 ? x.book() : reader == 1 ? x.nights() : reader == 2 ? x.tree() : x.sentence();
        int first = reader == 1 ? 2 : 1;
        Due.is("a FAULT or none: " + text, x.fault() != 0, told <= -first);
        return told <= -first ? -first - told : -1;
    }

    private static void faults(Random random, int seed) {
        String text = wild(random);
        int reader = random.nextInt(4);
        DreamTests x = fresh();
        int place = faultAt(x, reader, text);
        int kind = x.fault();
        int most = new int[] {900, 400, 400, 200}[reader];
        if (place < 0) {
            Due.is(seed + " no more than the most bytes", true, text.length() <= most);
            return;
        }
        Due.is(seed + " a place in the text", true, place <= text.length() && place <= most);
        // Ahead of the first FAULT there is none: what is cut off there lacks an end at most.
        DreamTests y = fresh();
        int cut = faultAt(y, reader, text.substring(0, place));
        Due.is(seed + " ahead of the FAULT in '" + text + "'", true, cut == -1 || cut == place && y.fault() == 1);
        // What comes behind its TOKEN changes nothing.
        int to = place + 1;
        while (to < text.length() && Character.isLetterOrDigit(text.charAt(to)) && text.charAt(to - 1) > ' '
                && Character.isLetterOrDigit(text.charAt(to - 1))) {
            to++;
        }
        if (place < text.length() && place < most) {
            DreamTests z = fresh();
            Due.is(seed + " the same FAULT in '" + text + "'", place, faultAt(z, reader, text.substring(0, to) + " ; x"));
            Due.is(seed + " the same kind in '" + text + "'", kind, z.fault());
        }
        // Blanks ahead of a text move its FAULT.
        if (text.length() + 2 <= most) {
            DreamTests z = fresh();
            Due.is(seed + " moved by two", place + 2, faultAt(z, reader, "\n " + text));
            Due.is(seed + " of the same kind", kind, z.fault());
        }
    }
}
