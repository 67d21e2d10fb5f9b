import java.nio.charset.StandardCharsets;
import java.util.NoSuchElementException;

/** What all tests share: answers that are due, and texts that come on the tape. */
final class Due {
    private static final int MOST_TOLD = 30;
    private static int wrong = 0;

    interface Call {
        long get();
    }

    private Due() {
    }

    static void is(String what, long want, long got) {
        if (want != got) {
            tell(what + " answered " + got + ", due is " + want);
        }
    }

    /** A broken promise may show in thousands of calls: some of them are enough to read. */
    private static void tell(String line) {
        wrong++;
        if (wrong <= MOST_TOLD) {
            System.out.println(line);
        }
    }

    static void is(String what, boolean want, boolean got) {
        is(what, want ? 1 : 0, got ? 1 : 0);
    }

    static void same(String what, String want, String got) {
        if (!want.equals(got)) {
            tell(what + " answered '" + got + "', due is '" + want + "'");
        }
    }

    static void isThrown(String what, Call call) {
        try {
            long got = call.get();
            tell(what + " answered " + got + ", due is NoSuchElementException");
        } catch (NoSuchElementException e) {
            return;
        }
    }

    /** Both sides of a fraction, as "above/below", or "none". */
    static String fraction(java.util.function.IntToLongFunction call) {
        try {
            return call.applyAsLong(0) + "/" + call.applyAsLong(1);
        } catch (NoSuchElementException e) {
            return "none";
        }
    }

    /** The tape has this text alone. */
    static DreamTests put(DreamTests x, String text) {
        byte[] bytes = text.getBytes(StandardCharsets.ISO_8859_1);
        x.end(0);
        int[] five = new int[5];
        for (int from = 0; from < bytes.length; from += 20) {
            java.util.Arrays.fill(five, 0);
            for (int i = 0; i < 20 && from + i < bytes.length; i++) {
                five[i / 4] |= (bytes[from + i] & 255) << 24 - i % 4 * 8;
            }
            x.feed(five[0], five[1], five[2], five[3], five[4]);
        }
        if (!x.end(bytes.length)) {
            throw new IllegalStateException("the tape has no place for the text");
        }
        return x;
    }

    static DreamTests withBook(String text) {
        DreamTests x = new DreamTests();
        int lines = put(x, text).book();
        if (lines < 0) {
            throw new IllegalStateException("a FAULT in " + text + " at " + (-1 - lines));
        }
        return x;
    }

    static void bookFault(String text, int kind, int place) {
        DreamTests x = new DreamTests();
        is("book() of '" + text + "'", -1 - place, put(x, text).book());
        is("fault() of BOOK '" + text + "'", kind, x.fault());
    }

    static String madeText(DreamTests x) {
        StringBuilder text = new StringBuilder();
        int sign = x.byteAt(0);
        for (int i = 1; sign != DreamTests.NONE; i++) {
            text.append((char) sign);
            sign = x.byteAt(i);
        }
        return text.toString();
    }

    static void done(String test) {
        if (wrong > 0) {
            System.out.println(test + ": " + wrong + " wrong");
            System.exit(1);
        }
        System.out.println(test + ": as due");
    }
}
