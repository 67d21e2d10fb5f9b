/** Promises 1 to 3: a new object, and the tape. */
public final class TapeTest {
    private TapeTest() {
    }

    public static void main(String[] args) {
        newObject();
        feed();
        feedWrites();
        feedWritesEach();
        end();
        endCutsOff();
        tapeEmptied();
        Due.done("TapeTest");
    }

    private static void newObject() {
        DreamTests x = new DreamTests();
        Due.is("new: NONE", -1, DreamTests.NONE);
        int[] want = {0, 0, 1, 0, 8, 1, 1, 0, 0, 0};
        for (int what = 0; what < want.length; what++) {
            Due.is("new: count(" + what + ")", want[what], x.count(what));
        }
        Due.is("new: fault()", 0, x.fault());
        Due.is("new: undo()", -1, x.undo());
        Due.is("new: byteAt(0)", -1, x.byteAt(0));
        Due.is("new: judged(0)", -1, x.judged(0));
        Due.is("new: leads()", -1, x.leads());
        Due.is("new: said(-1)", -1, x.said(-1));
        Due.is("new: restore(0)", false, x.restore(0));
        Due.is("new: restore(1)", false, x.restore(1));
        Due.same("new: sure", "1/1", Due.fraction(x::sure));
    }

    private static void feed() {
        DreamTests x = new DreamTests();
        for (int i = 1; i <= 47; i++) {
            Due.is("feed " + i, 20 * i, x.feed(0x20202020, 0x20202020, 0x0a0a0a0a, 0x20202020, 0x20202020));
        }
        Due.is("a full tape", 940, x.count(9));
        Due.is("feed on a full tape", -1, x.feed(0, 0, 0, 0, 0));
        Due.is("none came", 940, x.count(9));
        Due.is("end(921)", true, x.end(921));
        Due.is("feed on 921 bytes", -1, x.feed(0, 0, 0, 0, 0));
        Due.is("none came on 921", 921, x.count(9));
        Due.is("end(920)", true, x.end(920));
        Due.is("feed on 920 bytes", 940, x.feed(0, 0, 0, 0, 0));
    }

    /** Of each number the highest byte first, and the five in their order. */
    private static void feedWrites() {
        DreamTests x = new DreamTests();
        // "test a 1 2;test b 3 " and "4;"
        x.feed(0x74657374, 0x20612031, 0x20323b74, 0x65737420, 0x62203320);
        x.feed(0x343b0000, 0, 0, 0, 0);
        x.end(22);
        Due.is("book() as fed", 2, x.book());
        Due.is("a ROOM", 1, x.test(0, 0));
        Due.is("b DREAM", 4, x.test(1, 1));
    }

    /** Each of the twenty bytes in its place, and none of the others: all that can be in one. */
    private static void feedWritesEach() {
        for (int at = 0; at < 20; at++) {
            for (int sign = 0; sign < 256; sign++) {
                int[] five = {0x20202020, 0x20202020, 0x20202020, 0x20202020, 0x20202020};
                int shift = 24 - at % 4 * 8;
                five[at / 4] = five[at / 4] & ~(255 << shift) | sign << shift;
                DreamTests x = new DreamTests();
                x.feed(five[0], five[1], five[2], five[3], five[4]);
                boolean blank = sign == 32 || sign == 10;
                Due.is("byte " + sign + " at " + at, blank ? 0 : -1 - at, x.book());
                Due.is("its FAULT", blank ? 0 : 1, x.fault());
            }
        }
    }

    private static void end() {
        DreamTests x = new DreamTests();
        Due.is("end(0) of nothing", true, x.end(0));
        Due.is("end(1) of nothing", false, x.end(1));
        x.feed(0, 0, 0, 0, 0);
        Due.is("end(-1)", false, x.end(-1));
        Due.is("end(21)", false, x.end(21));
        Due.is("end(least int)", false, x.end(Integer.MIN_VALUE));
        Due.is("end(greatest int)", false, x.end(Integer.MAX_VALUE));
        Due.is("still all", 20, x.count(9));
        Due.is("end(20)", true, x.end(20));
        Due.is("all of it", 20, x.count(9));
        Due.is("end(7)", true, x.end(7));
        Due.is("seven", 7, x.count(9));
        Due.is("end(8)", false, x.end(8));
    }

    /** What end() cut off is gone: it goes on no TOKEN, and new bytes come where it was. */
    private static void endCutsOff() {
        DreamTests x = Due.withBook("test a 9 0;test b 9 0;");
        Due.put(x, "upon");
        x.end(2);
        Due.is("'up' of 'upon'", 0, x.tree());
        Due.put(x, "place<19");
        x.end(7);
        Due.is("'place<1' of 'place<19'", 1, x.sentence());
        Due.is("a alone", 1, x.said(-1));
        Due.put(x, "in room;up;bed;");
        x.end(11);
        Due.is("NIGHTS without 'bed'", -1, x.nights());
        Due.put(x, "learn;room 1;");
        x.end(6);
        Due.is("a BOOK of one LINE", 1, x.book());
        x.feed(0x6c656172, 0x6e3b7878, 0x78787878, 0x78787878, 0x78787878);
        x.end(5);
        x.feed(0x3b726f6f, 0x6d203230, 0x3b202020, 0x20202020, 0x20202020);
        Due.is("'learn' and ';room 20;'", 2, x.book());
        Due.is("the room's WEIGHT", 20, x.count(2));
    }

    private static void tapeEmptied() {
        DreamTests x = Due.put(new DreamTests(), "learn;");
        x.book();
        Due.is("behind book()", 0, x.count(9));
        Due.put(x, "learn").book();
        Due.is("behind a faulty book()", 0, x.count(9));
        Due.put(x, "up").tree();
        Due.is("behind tree()", 0, x.count(9));
        Due.put(x, "u").tree();
        Due.is("behind a faulty tree()", 0, x.count(9));
        Due.put(x, "in room;").nights();
        Due.is("behind nights()", 0, x.count(9));
        Due.put(x, "in").nights();
        Due.is("behind faulty nights()", 0, x.count(9));
        Due.put(x, "good").sentence();
        Due.is("behind sentence()", 0, x.count(9));
        Due.put(x, "goo").sentence();
        Due.is("behind a faulty sentence()", 0, x.count(9));
    }
}
