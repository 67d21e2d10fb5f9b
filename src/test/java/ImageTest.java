/** Promises 43 and 44 (and 5): images, and what they bring back. */
public final class ImageTest {
    private static final String FIRST = "test x 9 0;test y 8 2;dream k 2 x;room 3;";
    private static final String SECOND = "test a 5 5;room 7;tired 3;sure 6;late 8;wrong 9;learn;";

    private ImageTest() {
    }

    public static void main(String[] args) {
        noSuch();
        bringsBack();
        keepsAsItWas();
        whatStays();
        emptyOnes();
        faults();
        Due.done("ImageTest");
    }

    private static void noSuch() {
        DreamTests x = new DreamTests();
        Due.is("image(-1)", false, x.image(-1));
        Due.is("image(2)", false, x.image(2));
        Due.is("image(greatest int)", false, x.image(Integer.MAX_VALUE));
        Due.is("restore(-1)", false, x.restore(-1));
        Due.is("restore(2)", false, x.restore(2));
        Due.is("restore(0)", false, x.restore(0));
        Due.is("image(1)", true, x.image(1));
        Due.is("restore(0) yet", false, x.restore(0));
        Due.is("restore(1)", true, x.restore(1));
        x.sleep();
        Due.is("a restore() that is not done", false, x.restore(0));
        Due.is("takes nothing away", 0, x.undo());
    }

    private static void bringsBack() {
        DreamTests x = Due.withBook(FIRST);
        x.ask(1, 0);
        x.ask(0, 1);
        Due.put(x, "x(up;bed)").tree();
        Due.put(x, "good").sentence();
        Due.is("image(0)", true, x.image(0));
        Due.is("image() undoes nothing", 1, x.undo());
        Due.put(x, SECOND).book();
        x.ask(0, 1);
        Due.is("image(1)", true, x.image(1));
        Due.is("restore(0)", true, x.restore(0));
        int[] want = {2, 1, 3, 0, 8, 1, 1, 0, 2, 0};
        for (int what = 0; what < want.length; what++) {
            Due.is("restored: count(" + what + ")", want[what], x.count(what));
        }
        Due.is("answer(0)", 2, x.answer(0));
        Due.is("answer(1)", 1, x.answer(1));
        Due.same("SURE", "3/17", Due.fraction(x::sure));
        Due.is("the TREE", -2, x.leads());
        Due.is("the SENTENCE", 1, x.said(-1));
        Due.is("nothing to undo", -1, x.undo());
        Due.is("restore(1)", true, x.restore(1));
        int[] other = {1, 0, 7, 3, 6, 8, 9, 1, 1, 0};
        for (int what = 0; what < other.length; what++) {
            Due.is("the other one: count(" + what + ")", other[what], x.count(what));
        }
        Due.is("no TREE", -1, x.leads());
        Due.is("no SENTENCE", -1, x.said(-1));
        Due.is("restore(0) again", true, x.restore(0));
        Due.is("TESTS again", 2, x.count(0));
    }

    /** What comes later changes no image; what is kept later does. */
    private static void keepsAsItWas() {
        DreamTests x = Due.withBook(FIRST);
        x.ask(1, 1);
        x.image(0);
        x.ask(1, 1);
        x.sleep();
        x.drawn(3, 5);
        Due.put(x, "up").tree();
        Due.put(x, "good").sentence();
        Due.is("restore(0)", true, x.restore(0));
        Due.is("one answer", 1, x.count(8));
        Due.is("y was asked once", 1, x.test(1, 2));
        Due.same("SURE", "6/7", Due.fraction(x::sure));
        Due.is("no TREE yet", -1, x.leads());
        Due.is("no SENTENCE yet", -1, x.said(-1));
        x.ask(0, 1);
        x.image(0);
        x.sleep();
        Due.is("restore(0), kept again", true, x.restore(0));
        Due.is("two answers", 2, x.count(8));
        x.sleep();
        Due.is("restore(0) twice", true, x.restore(0));
        Due.is("two answers still", 2, x.count(8));
    }

    private static void whatStays() {
        DreamTests x = Due.withBook(FIRST);
        x.image(0);
        x.write(0);
        Due.put(x, "in room;x moves;").nights();
        Due.put(x, "k").tree();
        Due.put(x, "abc");
        x.sleep();
        Due.is("restore(0)", true, x.restore(0));
        Due.is("the tape", 3, x.count(9));
        Due.is("the text made last", 'u', x.byteAt(0));
        Due.is("judged last", 1, x.judged(0));
        Due.is("the latest FAULT", 3, x.fault());
        Due.is("nothing to undo", -1, x.undo());
    }

    private static void emptyOnes() {
        DreamTests x = new DreamTests();
        Due.is("image(0) of a new object", true, x.image(0));
        Due.put(x, FIRST).book();
        Due.is("restore(0)", true, x.restore(0));
        Due.is("no TESTS", 0, x.count(0));
        Due.is("the room alone", 1, x.fits());
    }

    /** fault() tells of the latest reading alone. */
    private static void faults() {
        DreamTests x = new DreamTests();
        Due.put(x, "room 21;").book();
        Due.is("of book()", 2, x.fault());
        Due.put(x, "in room;").nights();
        Due.is("of nights()", 0, x.fault());
        Due.put(x, "k").tree();
        Due.is("of tree()", 3, x.fault());
        Due.put(x, "good").sentence();
        Due.is("of sentence()", 0, x.fault());
        Due.put(x, "room").book();
        Due.is("of book() again", 1, x.fault());
        Due.put(x, "").book();
        Due.is("of an empty BOOK", 0, x.fault());
    }
}
