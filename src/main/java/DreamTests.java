import java.util.NoSuchElementException;

/** One who would know whether one dreams asks tests; ../shared/DOC.md says what each call answers. */
public final class DreamTests {
    public static final int NONE = -1;

    private static final int MOST_TESTS = 8;
    private static final int MOST_DREAMS = 6;
    /** Place 0 is the room, place 1 the first dream, and so on. */
    private static final int PLACES = MOST_DREAMS + 1;
    private static final int MOST_ANSWERS = 12;
    private static final int SURELY = 9;
    private static final int MOST_TOGETHER = 5;
    private static final int MOST_WAKINGS = 8;
    private static final int MOST_DRAWN = 60;
    private static final int FED = 20;

    private final Bytes tape;
    private final Bytes text;
    private final Reader reader;
    private final State now;
    private final State[] images;
    private final Past past;
    private final Night other;
    private final Plan plan;
    private final Nights told;

    public DreamTests() {
        Book empty = new Book();
        tape = new Bytes();
        text = new Bytes();
        reader = new Reader(tape);
        now = new State(empty);
        images = new State[] {new State(empty), new State(empty)};
        past = new Past(empty);
        other = new Night(empty);
        plan = new Plan(empty);
        told = new Nights();
    }

    public int feed(int a, int b, int c, int d, int e) {
        if (tape.left() < FED) {
            return NONE;
        }
        tape.putNumber(a);
        tape.putNumber(b);
        tape.putNumber(c);
        tape.putNumber(d);
        tape.putNumber(e);
        return tape.size;
    }

    public boolean end(int n) {
        if (n < 0 || n > tape.size) {
            return false;
        }
        tape.size = n;
        return true;
    }

    public int book() {
        Book book = new Book();
        reader.open(Book.MOST_BYTES);
        boolean fine = book.readLines(reader);
        tape.size = 0;
        if (!fine) {
            return -1 - reader.place;
        }
        now.begin(book);
        past.kept = 0;
        return book.lines;
    }

    public int fault() {
        return reader.fault;
    }

    public int test(int test, int what) {
        Book book = now.night.book;
        if (!book.hasTest(test)) {
            return NONE;
        }
        switch (what) {
            case 0:
                return book.inRoom(test);
            case 1:
                return book.inDream(test);
            case 2:
                return now.night.timesAsked(test);
            case 3:
                return book.keepersOf(test);
            default:
                return NONE;
        }
    }

    public int dream(int dream, int what) {
        Book book = now.night.book;
        if (!book.hasDream(dream) || !isSide(what)) {
            return NONE;
        }
        return what == 0 ? book.weightOf(dream + 1) : book.keptIn(dream + 1);
    }

    public int stays(int test, int dream) {
        Book book = now.night.book;
        if (!book.hasTest(test) || dream != NONE && !book.hasDream(dream)) {
            return NONE;
        }
        return now.night.chance(test, dream + 1);
    }

    public int ask(int test, int stays) {
        Night night = now.night;
        if (!night.book.hasTest(test) || !isSide(stays) || night.isFull() || !night.canBe(test, stays)) {
            return NONE;
        }
        past.keep(night);
        night.add(test, stays);
        return night.asked;
    }

    public int sleep() {
        int answers = now.night.asked;
        past.keep(now.night);
        now.night.begin(now.night.book);
        return answers;
    }

    public int answer(int i) {
        return now.night.answerAt(i);
    }

    public int undo() {
        return past.giveBack(now.night) ? past.kept : NONE;
    }

    public long sure(int what) throws NoSuchElementException {
        if (!isSide(what)) {
            throw new NoSuchElementException();
        }
        return fraction(now.night.ofRoom(), now.night.ofAll(), what);
    }

    public long odds(int dream, int what) throws NoSuchElementException {
        if (!now.night.book.hasDream(dream) || !isSide(what)) {
            throw new NoSuchElementException();
        }
        return fraction(now.night.ofPlace(dream + 1), now.night.ofAll(), what);
    }

    public int up() {
        return now.night.getsUp() ? 1 : 0;
    }

    public int likely() {
        Night night = now.night;
        int best = 0;
        for (int place = 1; place < PLACES; place++) {
            if (night.ofPlace(place) > night.ofPlace(best)) {
                best = place;
            }
        }
        return best == 0 ? NONE : best - 1;
    }

    public int fits() {
        int set = 0;
        for (int place = 0; place < PLACES; place++) {
            if (now.night.ofPlace(place) > 0) {
                set |= 1 << place;
            }
        }
        return set;
    }

    public int enough() {
        Book book = now.night.book;
        int good = book.goodTests();
        int best = NONE;
        for (int set = 0; set <= good; set++) {
            boolean fewer = best == NONE || Integer.bitCount(set) < Integer.bitCount(best);
            if ((set & ~good) == 0 && fewer && book.isForgedBy(set) == NONE) {
                best = set;
            }
        }
        return best;
    }

    public int forger() {
        return now.night.book.isForgedBy(now.night.book.goodTests());
    }

    public long error(int set, int what) throws NoSuchElementException {
        Book book = now.night.book;
        if (!book.hasTests(set) || Integer.bitCount(set) > MOST_TOGETHER || !isSide(what)) {
            throw new NoSuchElementException();
        }
        return fraction(book.mistakes(set), book.allWeights() * power(Integer.bitCount(set)), what);
    }

    public int pair() {
        Book book = now.night.book;
        int best = NONE;
        long least = 0;
        for (int a = 0; a < book.tests; a++) {
            for (int b = a + 1; b < book.tests; b++) {
                long mistakes = book.mistakes(1 << a | 1 << b);
                if (best == NONE || mistakes < least) {
                    least = mistakes;
                    best = 10 * a + b;
                }
            }
        }
        return best;
    }

    public long cost(int n, int what) throws NoSuchElementException {
        Book book = now.night.book;
        if (!Plan.isFor(book, n) || !isSide(what)) {
            throw new NoSuchElementException();
        }
        plan.open(book, n);
        return fraction(plan.leastCost(), book.allWeights() * power(n), what);
    }

    public int first(int n) {
        if (!Plan.isFor(now.night.book, n)) {
            return NONE;
        }
        plan.open(now.night.book, n);
        return plan.firstTest();
    }

    public int write(int n) {
        if (!Plan.isFor(now.night.book, n)) {
            return NONE;
        }
        plan.open(now.night.book, n);
        text.size = 0;
        plan.writeTo(text);
        return text.size;
    }

    public int byteAt(int i) {
        return i >= 0 && i < text.size ? text.at(i) : NONE;
    }

    public int tree() {
        Tree tree = new Tree();
        reader.open(Tree.MOST_BYTES);
        boolean fine = tree.readWhole(reader, now.night.book);
        tape.size = 0;
        if (!fine) {
            return -1 - reader.place;
        }
        now.tree = tree;
        return tree.tests;
    }

    public long worth(int what) throws NoSuchElementException {
        Tree tree = now.tree;
        if (tree == null || !isSide(what)) {
            throw new NoSuchElementException();
        }
        Book book = now.night.book;
        return fraction(tree.costBy(book), book.allWeights() * power(Tree.MOST_ON_WAY), what);
    }

    public int leads() {
        Tree tree = now.tree;
        return tree == null ? NONE : tree.actBehind(now.night);
    }

    public long after(int i, int what) throws NoSuchElementException {
        Night night = now.night;
        if (i < 0 || i > night.asked || !isSide(what)) {
            throw new NoSuchElementException();
        }
        other.begin(night.book);
        for (int k = 0; k < i; k++) {
            int answer = night.answerAt(k);
            other.add(answer >> 1, answer & 1);
        }
        return fraction(other.ofRoom(), other.ofAll(), what);
    }

    public long lot(int what) throws NoSuchElementException {
        Book book = now.night.book;
        int set = book.askedByLot();
        if (set == 0 || !isSide(what)) {
            throw new NoSuchElementException();
        }
        long others = Integer.bitCount(set) - 1;
        return fraction(others * Book.LOTS, SURELY * book.lotsOf(set), what);
    }

    public long share(int test, int what) throws NoSuchElementException {
        Book book = now.night.book;
        int set = book.askedByLot();
        if (set == 0 || !book.hasTest(test) || !isSide(what)) {
            throw new NoSuchElementException();
        }
        return fraction(book.lotsOf(set & 1 << test), book.lotsOf(set), what);
    }

    public int next() {
        Night night = now.night;
        if (night.isFull()) {
            return NONE;
        }
        int best = NONE;
        long most = 0;
        for (int test = 0; test < night.book.tests; test++) {
            long known = night.knownBehind(test);
            if (best == NONE || known > most) {
                most = known;
                best = test;
            }
        }
        return best;
    }

    public long fails(int set, int what) throws NoSuchElementException {
        Book book = now.night.book;
        if (!book.hasTests(set) || !isSide(what)) {
            throw new NoSuchElementException();
        }
        long all = power(Integer.bitCount(set));
        return fraction(all - book.chanceOf(0, set, set), all, what);
    }

    public long deep(int n, int what) throws NoSuchElementException {
        if (n < 0 || n > MOST_WAKINGS || !isSide(what)) {
            throw new NoSuchElementException();
        }
        Book book = now.night.book;
        long above = 1;
        long below = 1;
        for (int i = 0; i < n; i++) {
            above *= book.allWeights() - book.weightOf(0);
            below *= book.allWeights();
        }
        return fraction(above, below, what);
    }

    public long tells(int test, int what) throws NoSuchElementException {
        Night night = now.night;
        if (!night.book.hasTest(test) || !isSide(what)) {
            throw new NoSuchElementException();
        }
        long staying = 0;
        for (int place = 0; place < PLACES; place++) {
            staying += night.ofPlace(place) * night.chance(test, place);
        }
        return fraction(staying, night.ofAll() * SURELY, what);
    }

    public int apart(int a, int b) {
        Book book = now.night.book;
        if (!book.hasDream(a) || !book.hasDream(b)) {
            return NONE;
        }
        return Integer.bitCount(book.keptIn(a + 1) ^ book.keptIn(b + 1));
    }

    public int nights() {
        reader.open(Nights.MOST_BYTES);
        boolean fine = told.readLines(reader, now.night.book);
        tape.size = 0;
        if (!fine) {
            return -2 - reader.place;
        }
        other.begin(now.night.book);
        return told.judge(other);
    }

    public int judged(int what) {
        switch (what) {
            case 0:
                return told.why;
            case 1:
                return told.began;
            case 2:
                return told.answers;
            default:
                return NONE;
        }
    }

    public int drawn(int n, int seed) {
        Night night = now.night;
        if (!night.book.canDraw(n)) {
            return NONE;
        }
        past.keep(night);
        return night.draw(n, seed);
    }

    public int wrongs(int m, int n, int seed) {
        Book book = now.night.book;
        if (m < 1 || m > MOST_DRAWN || !book.canDraw(n)) {
            return NONE;
        }
        other.begin(book);
        int wrong = 0;
        for (int i = 0; i < m; i++) {
            boolean inRoom = other.draw(n, seed + i) == 0;
            if (inRoom != other.getsUp()) {
                wrong++;
            }
        }
        return wrong;
    }

    public int sentence() {
        Sentence sentence = new Sentence();
        reader.open(Sentence.MOST_BYTES);
        boolean fine = sentence.readWhole(reader, now.night.book);
        tape.size = 0;
        if (!fine) {
            return -1 - reader.place;
        }
        now.sentence = sentence;
        return sentence.ones;
    }

    public int said(int k) {
        Sentence sentence = now.sentence;
        if (sentence == null || k < NONE) {
            return NONE;
        }
        int set = sentence.testsOf(now.night);
        return k == NONE ? Integer.bitCount(set) : nthOf(set, k);
    }

    public boolean image(int k) {
        if (k < 0 || k >= images.length) {
            return false;
        }
        images[k].copy(now);
        images[k].kept = true;
        return true;
    }

    public boolean restore(int k) {
        if (k < 0 || k >= images.length || !images[k].kept) {
            return false;
        }
        now.copy(images[k]);
        past.kept = 0;
        return true;
    }

    public int count(int what) {
        Book book = now.night.book;
        switch (what) {
            case 0:
                return book.tests;
            case 1:
                return book.dreams;
            case 8:
                return now.night.asked;
            case 9:
                return tape.size;
            default:
                return what >= 2 && what <= 7 ? book.setting(what - 2) : NONE;
        }
    }

    private static boolean isSide(int what) {
        return what == 0 || what == 1;
    }

    /** One side of a fraction in least terms; below is 1 or more. */
    private static long fraction(long above, long below, int what) {
        long divisor = below;
        long rest = above;
        // Euclid's steps on longs are fewer than a hundred.
        for (int i = 0; i < 200 && rest != 0; i++) {
            long smaller = divisor % rest;
            divisor = rest;
            rest = smaller;
        }
        long side = what == 0 ? above : below;
        return divisor == 0 ? side : side / divisor;
    }

    private static long power(int n) {
        long product = 1;
        for (int i = 0; i < n; i++) {
            product *= SURELY;
        }
        return product;
    }

    private static int nthOf(int set, int n) {
        int ahead = 0;
        for (int i = 0; i < MOST_TESTS; i++) {
            if ((set & 1 << i) != 0) {
                if (ahead == n) {
                    return i;
                }
                ahead++;
            }
        }
        return NONE;
    }

    /** Bytes that come one behind another: the tape, and the text made last. */
    private static final class Bytes {
        static final int MOST = 940;

        private final byte[] bytes = new byte[MOST];
        private int size;

        int left() {
            return MOST - size;
        }

        int at(int i) {
            return i >= 0 && i < bytes.length ? bytes[i] : 0;
        }

        void put(int value) {
            if (size >= 0 && size < bytes.length) {
                bytes[size] = (byte) value;
                size++;
            }
        }

        void putNumber(int number) {
            put(number >> 24);
            put(number >> 16);
            put(number >> 8);
            put(number);
        }

        void putText(String signs) {
            for (int i = 0; i < signs.length(); i++) {
                put(signs.charAt(i));
            }
        }

        void putName(long name) {
            for (int shift = 30; shift >= 0; shift -= 5) {
                int letter = (int) (name >> shift) & 31;
                if (letter > 0) {
                    put('a' + letter - 1);
                }
            }
        }
    }

    /** The words that no NAME may be; NAME stands for every other word. */
    private enum Word {
        NAME(""),
        TEST("test"), DREAM("dream"),
        ROOM("room", 0, 1, 20), TIRED("tired", 1, 0, 12), SURE("sure", 2, 5, 9),
        LATE("late", 3, 0, 99), WRONG("wrong", 4, 0, 99), LEARN("learn", 5, 0, 0),
        IN("in"), STAYS("stays"), MOVES("moves"), UP("up"), BED("bed"),
        OR("or"), AND("and"), NOT("not"), GOOD("good"), KEPT("kept"), ASKED("asked"),
        ROOMS("rooms"), DREAMS("dreams"), PLACE("place");

        private static final Word[] ALL = values();

        private final long name;
        /** Where the BOOK has what is told once with this word; NONE for other words. */
        private final int setting;
        private final int least;
        private final int greatest;

        Word(String text) {
            this(text, NONE, 0, 0);
        }

        Word(String text, int setting, int least, int greatest) {
            long packed = 0;
            for (int i = 0; i < text.length(); i++) {
                packed = Reader.withLetter(packed, text.charAt(i));
            }
            this.name = packed;
            this.setting = setting;
            this.least = least;
            this.greatest = greatest;
        }

        static Word named(long name) {
            for (int i = 0; i < ALL.length; i++) {
                if (ALL[i].name == name) {
                    return ALL[i];
                }
            }
            return NAME;
        }
    }

    /** The TOKENS of the tape, one at a time, and the FAULT that ended the reading. */
    private static final class Reader {
        static final int UNFIT = 1;
        static final int NOT_AS_TOLD = 2;
        static final int MISNAMED = 3;
        static final int TOO_MANY = 4;

        /** Kinds of TOKENS; a sign is its own kind. */
        static final int END = 0;
        static final int NO_TOKEN = 1;
        static final int WORD = 2;
        static final int NUMBER = 3;

        private static final int MOST_LETTERS = 7;
        private static final int MOST_DIGITS = 2;

        private final Bytes tape;
        private int most;
        private int ahead;
        private int place;
        private int kind;
        private int number;
        private long name;
        private Word word = Word.NAME;
        private int fault;

        Reader(Bytes tape) {
            this.tape = tape;
        }

        void open(int mostBytes) {
            most = mostBytes;
            ahead = 0;
            fault = 0;
            advance();
        }

        void advance() {
            int from = ahead;
            while (from < tape.size && isBlank(tape.at(from))) {
                from++;
            }
            number = 0;
            name = 0;
            word = Word.NAME;
            if (tape.size > most && from >= most) {
                place = most;
                kind = NO_TOKEN;
            } else if (from >= tape.size) {
                place = tape.size;
                kind = END;
            } else {
                place = from;
                readToken();
            }
        }

        private void readToken() {
            int letters = 0;
            int digits = 0;
            int to = place;
            for (; to < tape.size && (isLetter(tape.at(to)) || isDigit(tape.at(to))); to++) {
                if (isLetter(tape.at(to))) {
                    letters++;
                    name = withLetter(name, tape.at(to));
                } else {
                    digits++;
                    number = 10 * number + tape.at(to) - '0';
                }
            }
            ahead = Math.max(to, place + 1);
            if (letters == 0 && digits == 0) {
                kind = isSign(tape.at(place)) ? tape.at(place) : NO_TOKEN;
            } else if (digits == 0 && letters <= MOST_LETTERS) {
                kind = WORD;
                word = Word.named(name);
            } else {
                kind = letters == 0 && digits <= MOST_DIGITS ? NUMBER : NO_TOKEN;
            }
        }

        /** Always false, so that a reading method can end by it. */
        boolean fail(int faultKind) {
            fault = faultKind;
            return false;
        }

        boolean isAt(Word keyword) {
            return kind == WORD && word == keyword;
        }

        boolean isName() {
            return isAt(Word.NAME);
        }

        boolean take(int sign) {
            if (kind != sign) {
                return fail(UNFIT);
            }
            advance();
            return true;
        }

        boolean takeEnd() {
            return kind == END || fail(UNFIT);
        }

        /** The NUMBER, or NONE with a FAULT. */
        int takeNumber(int least, int greatest) {
            int taken = number;
            if (kind != NUMBER) {
                fail(UNFIT);
                return NONE;
            }
            if (taken < least || taken > greatest) {
                fail(NOT_AS_TOLD);
                return NONE;
            }
            advance();
            return taken;
        }

        /** The TEST named here, or NONE with a FAULT; what comes next is not yet read. */
        int testHere(Book book) {
            int found = book.testNamed(name);
            if (!isName()) {
                fail(UNFIT);
                return NONE;
            }
            if (found == NONE) {
                fail(MISNAMED);
            }
            return found;
        }

        /** The DREAM named here, likewise. */
        int dreamHere(Book book) {
            int found = book.dreamNamed(name);
            if (!isName()) {
                fail(UNFIT);
                return NONE;
            }
            if (found == NONE) {
                fail(MISNAMED);
            }
            return found;
        }

        /** A WORD of seven letters fits a long, so that names need no text of their own. */
        static long withLetter(long name, int letter) {
            return name << 5 | (letter - 'a' + 1);
        }

        private static boolean isBlank(int sign) {
            return sign == 32 || sign == 10;
        }

        private static boolean isLetter(int sign) {
            return sign >= 'a' && sign <= 'z';
        }

        private static boolean isDigit(int sign) {
            return sign >= '0' && sign <= '9';
        }

        private static boolean isSign(int sign) {
            return sign == ';' || sign == '(' || sign == ')' || sign == '<' || sign == '=' || sign == '>';
        }

        static boolean isOrder(int sign) {
            return sign == '<' || sign == '=' || sign == '>';
        }
    }

    /** What a BOOK tells; it never changes once it is read. */
    private static final class Book {
        static final int MOST_BYTES = 900;
        static final int TIRED = 1;
        static final int SURE = 2;
        static final int LATE = 3;
        static final int WRONG = 4;
        static final int LEARN = 5;
        /** Every odds of moving, 1 to 9, divides it. */
        static final long LOTS = 2520;

        private int lines;
        private int tests;
        private int dreams;
        private int told;
        private final int[] settings = {1, 0, 8, 1, 1, 0};
        private final long[] testNames = new long[MOST_TESTS];
        private final int[] rooms = new int[MOST_TESTS];
        private final int[] dreamings = new int[MOST_TESTS];
        private final long[] dreamNames = new long[MOST_DREAMS];
        /** By place; 0 where there is no DREAM, so that sums over all places need no care. */
        private final int[] weights = new int[PLACES];
        private final int[] keeps = new int[PLACES];

        boolean readLines(Reader in) {
            for (int i = 0; i < Bytes.MOST && in.kind != Reader.END; i++) {
                if (!readLine(in) || !in.take(';')) {
                    return false;
                }
                lines++;
            }
            return true;
        }

        private boolean readLine(Reader in) {
            if (in.isAt(Word.TEST)) {
                return readTest(in);
            }
            if (in.isAt(Word.DREAM)) {
                return readDream(in);
            }
            return readSetting(in, in.word);
        }

        private boolean readTest(Reader in) {
            int test = tests;
            if (test < 0 || test >= MOST_TESTS) {
                return in.fail(Reader.TOO_MANY);
            }
            in.advance();
            long name = in.name;
            if (!takeNewName(in)) {
                return false;
            }
            int room = in.takeNumber(0, SURELY);
            if (room == NONE) {
                return false;
            }
            int dreaming = in.takeNumber(0, SURELY);
            if (dreaming == NONE) {
                return false;
            }
            testNames[test] = name;
            rooms[test] = room;
            dreamings[test] = dreaming;
            tests++;
            return true;
        }

        private boolean readDream(Reader in) {
            int dream = dreams;
            if (dream < 0 || dream >= MOST_DREAMS) {
                return in.fail(Reader.TOO_MANY);
            }
            in.advance();
            long name = in.name;
            if (!takeNewName(in)) {
                return false;
            }
            int weight = in.takeNumber(1, 20);
            if (weight == NONE) {
                return false;
            }
            int kept = readKept(in);
            if (kept == NONE) {
                return false;
            }
            dreamNames[dream] = name;
            weights[dream + 1] = weight;
            keeps[dream + 1] = kept;
            dreams++;
            return true;
        }

        private int readKept(Reader in) {
            int kept = 0;
            // A ninth TEST is one told again.
            for (int i = 0; i <= MOST_TESTS && in.kind == Reader.WORD; i++) {
                int test = in.testHere(this);
                if (test == NONE) {
                    return NONE;
                }
                if ((kept & 1 << test) != 0) {
                    in.fail(Reader.MISNAMED);
                    return NONE;
                }
                kept |= 1 << test;
                in.advance();
            }
            return kept;
        }

        private boolean readSetting(Reader in, Word word) {
            int setting = word.setting;
            if (setting < 0 || setting >= settings.length) {
                return in.fail(Reader.UNFIT);
            }
            if ((told & 1 << setting) != 0) {
                return in.fail(Reader.MISNAMED);
            }
            told |= 1 << setting;
            in.advance();
            int value = setting == LEARN ? 1 : in.takeNumber(word.least, word.greatest);
            if (value == NONE) {
                return false;
            }
            settings[setting] = value;
            return true;
        }

        private boolean takeNewName(Reader in) {
            if (!in.isName()) {
                return in.fail(Reader.UNFIT);
            }
            if (testNamed(in.name) != NONE || dreamNamed(in.name) != NONE) {
                return in.fail(Reader.MISNAMED);
            }
            in.advance();
            return true;
        }

        int testNamed(long name) {
            for (int test = 0; test < tests && test < MOST_TESTS; test++) {
                if (testNames[test] == name) {
                    return test;
                }
            }
            return NONE;
        }

        int dreamNamed(long name) {
            for (int dream = 0; dream < dreams && dream < MOST_DREAMS; dream++) {
                if (dreamNames[dream] == name) {
                    return dream;
                }
            }
            return NONE;
        }

        boolean hasTest(int test) {
            return test >= 0 && test < tests;
        }

        boolean hasTests(int set) {
            return set >= 0 && set >> tests == 0;
        }

        boolean hasDream(int dream) {
            return dream >= 0 && dream < dreams;
        }

        int setting(int i) {
            return i >= 0 && i < settings.length ? settings[i] : 0;
        }

        long nameOf(int test) {
            return test >= 0 && test < testNames.length ? testNames[test] : 0;
        }

        int inRoom(int test) {
            return test >= 0 && test < rooms.length ? rooms[test] : 0;
        }

        int inDream(int test) {
            return test >= 0 && test < dreamings.length ? dreamings[test] : 0;
        }

        int weightOf(int place) {
            if (place == 0) {
                return settings[0];
            }
            return place > 0 && place < weights.length ? weights[place] : 0;
        }

        int allWeights() {
            int sum = 0;
            for (int place = 0; place < PLACES; place++) {
                sum += weightOf(place);
            }
            return sum;
        }

        int keptIn(int place) {
            return place >= 0 && place < keeps.length ? keeps[place] : 0;
        }

        int keepersOf(int test) {
            int set = 0;
            for (int dream = 0; dream < MOST_DREAMS; dream++) {
                if ((keptIn(dream + 1) & 1 << test) != 0) {
                    set |= 1 << dream;
                }
            }
            return set;
        }

        /** Of 9, without 'learn' and 'tired'. */
        int plainChance(int test, int place) {
            boolean asInRoom = place == 0 || (keptIn(place) & 1 << test) != 0;
            return asInRoom ? inRoom(test) : inDream(test);
        }

        int goodTests() {
            int set = 0;
            for (int test = 0; test < tests; test++) {
                if (inRoom(test) == SURELY && inDream(test) == 0) {
                    set |= 1 << test;
                }
            }
            return set;
        }

        /** The first DREAM that keeps all of a set, or NONE. */
        int isForgedBy(int set) {
            for (int dream = 0; dream < dreams; dream++) {
                if ((set & ~keptIn(dream + 1)) == 0) {
                    return dream;
                }
            }
            return NONE;
        }

        /** Of 9 to the number of TESTS: those of a set are asked once each, and those of staying alone STAY. */
        long chanceOf(int place, int set, int staying) {
            long product = 1;
            for (int test = 0; test < tests; test++) {
                if ((set & 1 << test) != 0) {
                    int chance = plainChance(test, place);
                    product *= (staying & 1 << test) != 0 ? chance : SURELY - chance;
                }
            }
            return product;
        }

        /** ERROR times all WEIGHTS and 9 to the number of TESTS. */
        long mistakes(int set) {
            long sum = 0;
            for (int staying = 0; staying <= set; staying++) {
                if ((staying & ~set) == 0) {
                    long room = weightOf(0) * chanceOf(0, set, staying);
                    long dreaming = 0;
                    for (int place = 1; place < PLACES; place++) {
                        dreaming += weightOf(place) * chanceOf(place, set, staying);
                    }
                    sum += Math.min(room, dreaming);
                }
            }
            return sum;
        }

        /** The TESTS of the best LOT: those that MOVE often enough; 0: it never is. */
        int askedByLot() {
            int best = 0;
            // A TEST that moves less is never asked ahead of one that moves more.
            for (int moving = SURELY; moving > 0; moving--) {
                int set = movingBy(moving);
                long value = (Integer.bitCount(set) - 1) * lotsOf(best);
                long before = (Integer.bitCount(best) - 1) * lotsOf(set);
                if (Integer.bitCount(set) > 1 && (best == 0 || value >= before)) {
                    best = set;
                }
            }
            return best;
        }

        private int movingBy(int least) {
            int set = 0;
            for (int test = 0; test < tests; test++) {
                if (SURELY - inDream(test) >= least) {
                    set |= 1 << test;
                }
            }
            return set;
        }

        /** Each TEST is asked the more often the less it MOVES, so that it is no matter which one is kept. */
        long lotsOf(int set) {
            long sum = 0;
            for (int test = 0; test < tests; test++) {
                int moving = SURELY - inDream(test);
                if ((set & 1 << test) != 0 && moving > 0) {
                    sum += LOTS / moving;
                }
            }
            return sum;
        }

        boolean canDraw(int n) {
            return n >= 0 && n <= MOST_ANSWERS && (n == 0 || tests > 0);
        }
    }

    /** The answers of a NIGHT, and how likely each place is behind them. */
    private static final class Night {
        private Book book;
        private int asked;
        private final int[] answers = new int[MOST_ANSWERS];
        private final int[] times = new int[MOST_TESTS];
        /** Of each place its WEIGHT times the odds of all answers. */
        private final long[] likely = new long[PLACES];
        /** What the next draw is made of. */
        private int x;

        Night(Book book) {
            begin(book);
        }

        void begin(Book newBook) {
            book = newBook;
            asked = 0;
            for (int i = 0; i < times.length; i++) {
                times[i] = 0;
            }
            for (int place = 0; place < likely.length; place++) {
                likely[place] = book.weightOf(place);
            }
        }

        void copy(Night from) {
            book = from.book;
            asked = from.asked;
            System.arraycopy(from.answers, 0, answers, 0, MOST_ANSWERS);
            System.arraycopy(from.times, 0, times, 0, MOST_TESTS);
            System.arraycopy(from.likely, 0, likely, 0, PLACES);
        }

        boolean isFull() {
            return asked >= MOST_ANSWERS;
        }

        int answerAt(int i) {
            return i >= 0 && i < asked && i < answers.length ? answers[i] : NONE;
        }

        int timesAsked(int test) {
            return test >= 0 && test < times.length ? times[test] : 0;
        }

        long ofPlace(int place) {
            return place >= 0 && place < likely.length ? likely[place] : 0;
        }

        long ofRoom() {
            return ofPlace(0);
        }

        long ofDreams() {
            long sum = 0;
            for (int place = 1; place < PLACES; place++) {
                sum += ofPlace(place);
            }
            return sum;
        }

        long ofAll() {
            return ofRoom() + ofDreams();
        }

        /** By how many of 9 the TEST, asked now, STAYS. */
        int chance(int test, int place) {
            int tired = book.setting(Book.TIRED);
            if (tired > 0 && asked + 1 >= tired) {
                return SURELY;
            }
            boolean learnt = book.setting(Book.LEARN) == 1 && timesAsked(test) > 0;
            return learnt ? book.inRoom(test) : book.plainChance(test, place);
        }

        int chanceOf(int test, int stays, int place) {
            int chance = chance(test, place);
            return stays == 1 ? chance : SURELY - chance;
        }

        boolean canBe(int test, int stays) {
            for (int place = 0; place < PLACES; place++) {
                if (ofPlace(place) > 0 && chanceOf(test, stays, place) > 0) {
                    return true;
                }
            }
            return false;
        }

        void add(int test, int stays) {
            if (test < 0 || test >= times.length || asked < 0 || asked >= answers.length) {
                return;
            }
            for (int place = 0; place < likely.length; place++) {
                likely[place] *= chanceOf(test, stays, place);
            }
            answers[asked] = 2 * test + stays;
            times[test]++;
            asked++;
        }

        boolean getsUp() {
            return book.setting(Book.WRONG) * ofDreams() <= book.setting(Book.LATE) * ofRoom();
        }

        boolean isWronglySure(int place) {
            long against = place == 0 ? ofDreams() : ofRoom();
            return against * SURELY >= book.setting(Book.SURE) * ofAll();
        }

        /** How likely the likelier one of room and dream is, with both answers of a TEST together. */
        long knownBehind(int test) {
            long known = 0;
            for (int stays = 0; stays <= 1; stays++) {
                long room = ofRoom() * chanceOf(test, stays, 0);
                long dreaming = 0;
                for (int place = 1; place < PLACES; place++) {
                    dreaming += ofPlace(place) * chanceOf(test, stays, place);
                }
                known += Math.max(room, dreaming);
            }
            return known;
        }

        /** A NIGHT DRAWN by a seed; answers where one is. */
        int draw(int n, int seed) {
            begin(book);
            x = seed;
            int where = drawPlace();
            for (int i = 0; i < n; i++) {
                int test = drawBelow(book.tests);
                add(test, drawBelow(SURELY) < chance(test, where) ? 1 : 0);
            }
            return where;
        }

        private int drawPlace() {
            int rest = drawBelow(book.allWeights());
            for (int place = 0; place < PLACES; place++) {
                if (rest < book.weightOf(place)) {
                    return place;
                }
                rest -= book.weightOf(place);
            }
            return 0;
        }

        private int drawBelow(int n) {
            x = x * 1103515245 + 12345;
            return n > 0 ? (x >>> 8) % n : 0;
        }
    }

    /** The NIGHTS ahead of the latest acts, in a ring. */
    private static final class Past {
        private static final int MOST = 8;

        private final Night[] nights = new Night[MOST];
        private int latest;
        private int kept;

        Past(Book book) {
            for (int i = 0; i < nights.length; i++) {
                nights[i] = new Night(book);
            }
        }

        void keep(Night night) {
            latest = (latest + 1) & (MOST - 1);
            if (latest < nights.length) {
                nights[latest].copy(night);
            }
            kept = Math.min(kept + 1, MOST);
        }

        boolean giveBack(Night night) {
            if (kept <= 0 || latest < 0 || latest >= nights.length) {
                return false;
            }
            night.copy(nights[latest]);
            latest = (latest + MOST - 1) & (MOST - 1);
            kept--;
            return true;
        }
    }

    /** What an image keeps: the NIGHT (it knows its BOOK), the TREE and the SENTENCE. */
    private static final class State {
        private final Night night;
        private Tree tree;
        private Sentence sentence;
        private boolean kept;

        State(Book book) {
            night = new Night(book);
        }

        void begin(Book book) {
            night.begin(book);
            tree = null;
            sentence = null;
        }

        void copy(State from) {
            night.copy(from.night);
            tree = from.tree;
            sentence = from.sentence;
        }
    }

    /** LEAST COST by at most n TESTS, for every state: what was asked and answered so far, whatever the order. */
    private static final class Plan {
        private static final int MOST_ASKED = 4;
        private static final int MOST_CHOICES = 6;
        /** A state has a digit to the base of 3 for each TEST: 0 not asked, 1 it STAYED, 2 it MOVED. */
        private static final int STATES = 729;
        private static final int[] UNITS = {1, 3, 9, 27, 81, 243};

        /** How likely each place is behind the answers of a state, by how many there are. */
        private final long[][] likely = new long[MOST_ASKED + 1][PLACES];
        /** Of a state, times 9 to the number of TESTS that can still be asked. */
        private final long[] costs = new long[STATES];
        private final int[] choices = new int[STATES];
        private final boolean[] ups = new boolean[STATES];
        private final boolean[] known = new boolean[STATES];
        private Book book;

        Plan(Book book) {
            this.book = book;
        }

        static boolean isFor(Book book, int n) {
            return n >= 0 && n <= MOST_ASKED && book.tests <= MOST_CHOICES;
        }

        void open(Book newBook, int n) {
            book = newBook;
            for (int state = 0; state < known.length; state++) {
                known[state] = false;
            }
            for (int place = 0; place < PLACES; place++) {
                likely[0][place] = book.weightOf(place);
            }
            choose(0, 0, n);
        }

        long leastCost() {
            return costs[0];
        }

        int firstTest() {
            return choices[0];
        }

        void writeTo(Bytes text) {
            writeWay(text, 0, 0);
        }

        private static boolean isState(int state) {
            return state >= 0 && state < STATES;
        }

        private static int behind(int state, int test, int stays) {
            int unit = test >= 0 && test < UNITS.length ? UNITS[test] : 0;
            return state + (stays == 1 ? unit : 2 * unit);
        }

        /** Puts down for a state, in which these TESTS were asked, what is done there and what it costs. */
        private void choose(int state, int used, int left) {
            int asked = Integer.bitCount(used);
            if (!isState(state) || asked > MOST_ASKED) {
                return;
            }
            long up = costOfUp(asked);
            long bed = costOfBed(asked);
            long best = Math.min(up, bed) * power(left);
            int choice = NONE;
            for (int test = 0; test < book.tests && left > 0; test++) {
                if ((used & 1 << test) == 0) {
                    long cost = costBehind(state, used, left, test, 1) + costBehind(state, used, left, test, 0);
                    if (cost < best) {
                        best = cost;
                        choice = test;
                    }
                }
            }
            known[state] = true;
            costs[state] = best;
            choices[state] = choice;
            ups[state] = up <= bed;
        }

        private long costBehind(int state, int used, int left, int test, int stays) {
            int next = behind(state, test, stays);
            if (!isState(next)) {
                return 0;
            }
            if (!known[next]) {
                goOn(Integer.bitCount(used), test, stays);
                choose(next, used | 1 << test, left - 1);
            }
            return costs[next];
        }

        private void writeWay(Bytes text, int state, int asked) {
            if (!isState(state) || asked > MOST_ASKED) {
                return;
            }
            int test = choices[state];
            if (test == NONE) {
                text.putText(ups[state] ? "up" : "bed");
                return;
            }
            text.putName(book.nameOf(test));
            text.putText(" ( ");
            writeWay(text, behind(state, test, 1), asked + 1);
            text.putText(" ; ");
            writeWay(text, behind(state, test, 0), asked + 1);
            text.putText(" )");
        }

        private void goOn(int asked, int test, int stays) {
            if (asked < 0 || asked + 1 >= likely.length) {
                return;
            }
            for (int place = 0; place < PLACES; place++) {
                int chance = book.plainChance(test, place);
                likely[asked + 1][place] = likely[asked][place] * (stays == 1 ? chance : SURELY - chance);
            }
        }

        private long costOfUp(int asked) {
            if (asked < 0 || asked >= likely.length) {
                return 0;
            }
            long dreaming = 0;
            for (int place = 1; place < PLACES; place++) {
                dreaming += likely[asked][place];
            }
            return book.setting(Book.WRONG) * dreaming;
        }

        private long costOfBed(int asked) {
            if (asked < 0 || asked >= likely.length) {
                return 0;
            }
            return book.setting(Book.LATE) * likely[asked][0];
        }
    }

    /** A TREE; behind node i come 2 i, if its TEST STAYS, and 2 i + 1, if it MOVES; node 1 is the first. */
    private static final class Tree {
        static final int MOST_BYTES = 400;
        static final int MOST_ON_WAY = 4;
        private static final int UP = -1;
        private static final int BED = -2;

        private final int[] nodes = new int[2 << MOST_ON_WAY];
        private int tests;

        boolean readWhole(Reader in, Book book) {
            return readNode(in, book, 1, 0, 0) && in.takeEnd();
        }

        private boolean readNode(Reader in, Book book, int node, int way, int depth) {
            if (node < 0 || node >= nodes.length) {
                return in.fail(Reader.TOO_MANY);
            }
            if (in.isAt(Word.UP) || in.isAt(Word.BED)) {
                nodes[node] = in.isAt(Word.UP) ? UP : BED;
                in.advance();
                return true;
            }
            int test = in.testHere(book);
            if (test == NONE) {
                return false;
            }
            if ((way & 1 << test) != 0) {
                return in.fail(Reader.MISNAMED);
            }
            if (depth >= MOST_ON_WAY) {
                return in.fail(Reader.TOO_MANY);
            }
            nodes[node] = test;
            tests++;
            in.advance();
            int longer = way | 1 << test;
            return in.take('(') && readNode(in, book, 2 * node, longer, depth + 1)
                && in.take(';') && readNode(in, book, 2 * node + 1, longer, depth + 1)
                && in.take(')');
        }

        private int nodeAt(int node) {
            return node >= 0 && node < nodes.length ? nodes[node] : UP;
        }

        /** Times all WEIGHTS and 9 to the most TESTS on a way. */
        long costBy(Book book) {
            long sum = 0;
            for (int node = 1; node < nodes.length; node++) {
                if (nodes[node] == UP) {
                    for (int place = 1; place < PLACES; place++) {
                        sum += book.setting(Book.WRONG) * likelyAt(node, place, book);
                    }
                } else if (nodes[node] == BED) {
                    sum += book.setting(Book.LATE) * likelyAt(node, 0, book);
                }
            }
            return sum;
        }

        private long likelyAt(int end, int place, Book book) {
            long product = book.weightOf(place);
            int asked = 0;
            for (int node = end; node > 1; node >>= 1) {
                int chance = book.plainChance(nodeAt(node >> 1), place);
                product *= (node & 1) == 0 ? chance : SURELY - chance;
                asked++;
            }
            return product * power(MOST_ON_WAY - asked);
        }

        int actBehind(Night night) {
            int node = 1;
            for (int i = 0; i < night.asked; i++) {
                int answer = night.answerAt(i);
                if (nodeAt(node) < 0 || nodeAt(node) != answer >> 1) {
                    return -2;
                }
                node = 2 * node + 1 - (answer & 1);
            }
            int act = nodeAt(node);
            if (act < 0) {
                return act == UP ? 1 : 0;
            }
            return 10 + act;
        }
    }

    /** A SENTENCE as steps on a stack of sets of TESTS, so that what was asked can change behind it. */
    private static final class Sentence {
        static final int MOST_BYTES = 200;
        private static final int MOST_ONES = 20;
        private static final int MOST_WITHIN = 8;
        private static final int GREATEST = 99;
        private static final int SET = 0;
        private static final int ASKED = 1;
        private static final int NOT = 2;
        private static final int AND = 3;
        private static final int OR = 4;

        private final int[] steps = new int[2 * MOST_ONES];
        private final int[] sets = new int[2 * MOST_ONES];
        private final int[] stack = new int[2 * MOST_ONES];
        private int size;
        private int ones;

        boolean readWhole(Reader in, Book book) {
            return readCond(in, book, 1) && in.takeEnd();
        }

        private boolean readCond(Reader in, Book book, int within) {
            boolean fine = readAll(in, book, within);
            for (int i = 0; i < MOST_ONES && fine && in.isAt(Word.OR); i++) {
                in.advance();
                fine = readAll(in, book, within) && put(OR, 0);
            }
            return fine;
        }

        private boolean readAll(Reader in, Book book, int within) {
            boolean fine = readOne(in, book, within);
            for (int i = 0; i < MOST_ONES && fine && in.isAt(Word.AND); i++) {
                in.advance();
                fine = readOne(in, book, within) && put(AND, 0);
            }
            return fine;
        }

        private boolean readOne(Reader in, Book book, int within) {
            Word word = in.word;
            boolean bracket = in.kind == '(';
            if (!bracket && !beginsOne(word)) {
                return in.fail(Reader.UNFIT);
            }
            if (ones >= MOST_ONES || within > MOST_WITHIN) {
                return in.fail(Reader.TOO_MANY);
            }
            ones++;
            in.advance();
            if (bracket) {
                return readCond(in, book, within + 1) && in.take(')');
            }
            if (word == Word.NOT) {
                return readOne(in, book, within + 1) && put(NOT, 0);
            }
            if (word == Word.GOOD) {
                return put(SET, book.goodTests());
            }
            if (word == Word.ASKED) {
                return put(ASKED, 0);
            }
            return word == Word.KEPT ? readKept(in, book) : readOrder(in, book, word);
        }

        private static boolean beginsOne(Word word) {
            return word == Word.NOT || word == Word.GOOD || word == Word.KEPT || word == Word.ASKED
                || word == Word.ROOMS || word == Word.DREAMS || word == Word.PLACE;
        }

        private boolean readKept(Reader in, Book book) {
            int dream = in.dreamHere(book);
            if (dream == NONE) {
                return false;
            }
            in.advance();
            return put(SET, book.keptIn(dream + 1));
        }

        private boolean readOrder(Reader in, Book book, Word word) {
            int sign = in.kind;
            if (!Reader.isOrder(sign)) {
                return in.fail(Reader.UNFIT);
            }
            in.advance();
            int number = in.takeNumber(0, GREATEST);
            if (number == NONE) {
                return false;
            }
            int set = 0;
            for (int test = 0; test < book.tests; test++) {
                int value = word == Word.ROOMS ? book.inRoom(test) : word == Word.DREAMS ? book.inDream(test) : test;
                boolean holds = sign == '<' ? value < number : sign == '>' ? value > number : value == number;
                if (holds) {
                    set |= 1 << test;
                }
            }
            return put(SET, set);
        }

        private boolean put(int step, int set) {
            if (size >= 0 && size < steps.length) {
                steps[size] = step;
                sets[size] = set;
                size++;
            }
            return true;
        }

        int testsOf(Night night) {
            int top = 0;
            for (int i = 0; i < size && i < steps.length; i++) {
                if (steps[i] == SET || steps[i] == ASKED) {
                    if (top < stack.length) {
                        stack[top] = steps[i] == SET ? sets[i] : askedIn(night);
                        top++;
                    }
                } else if (steps[i] == NOT) {
                    if (top >= 1) {
                        stack[top - 1] = ~stack[top - 1];
                    }
                } else if (top >= 2) {
                    top--;
                    int both = stack[top - 1] & stack[top];
                    stack[top - 1] = steps[i] == AND ? both : stack[top - 1] | stack[top];
                }
            }
            return stack[0] & (1 << night.book.tests) - 1;
        }

        private static int askedIn(Night night) {
            int set = 0;
            for (int test = 0; test < MOST_TESTS; test++) {
                if (night.timesAsked(test) > 0) {
                    set |= 1 << test;
                }
            }
            return set;
        }
    }

    /** The NIGHTS of a text, and what was found as they were judged last. */
    private static final class Nights {
        static final int MOST_BYTES = 400;
        private static final int MOST_LINES = 40;
        private static final int IN = 0;
        private static final int ANSWER = 1;
        private static final int UP = 2;
        private static final int BED = 3;
        private static final int CANNOT_BE = 1;
        private static final int WRONGLY_SURE = 2;
        private static final int NOT_DONE_SO = 3;

        private final int[] acts = new int[MOST_LINES];
        /** Of 'in' the place, of an answer 2 times the TEST, 1 more if it STAYS. */
        private final int[] values = new int[MOST_LINES];
        private int lines;
        /** Of the night that began last. */
        private int asked;
        private int where;
        private int why = NONE;
        private int began = NONE;
        private int answers = NONE;

        boolean readLines(Reader in, Book book) {
            lines = 0;
            for (int i = 0; i <= MOST_LINES && in.kind != Reader.END; i++) {
                if (!readLine(in, book) || !in.take(';')) {
                    return false;
                }
            }
            return true;
        }

        private boolean readLine(Reader in, Book book) {
            if (in.isAt(Word.IN)) {
                return readIn(in, book);
            }
            if (lines == 0) {
                return in.fail(Reader.UNFIT);
            }
            if (in.isAt(Word.UP) || in.isAt(Word.BED)) {
                return readAct(in, in.isAt(Word.UP) ? UP : BED);
            }
            return readAnswer(in, book);
        }

        private boolean readIn(Reader in, Book book) {
            if (lines >= MOST_LINES) {
                return in.fail(Reader.TOO_MANY);
            }
            in.advance();
            int place = 0;
            if (!in.isAt(Word.ROOM)) {
                int dream = in.dreamHere(book);
                if (dream == NONE) {
                    return false;
                }
                place = dream + 1;
            }
            in.advance();
            asked = 0;
            put(IN, place);
            return true;
        }

        private boolean readAct(Reader in, int act) {
            if (lines >= MOST_LINES) {
                return in.fail(Reader.TOO_MANY);
            }
            in.advance();
            put(act, 0);
            return true;
        }

        private boolean readAnswer(Reader in, Book book) {
            int test = in.testHere(book);
            if (test == NONE) {
                return false;
            }
            if (lines >= MOST_LINES || asked >= MOST_ANSWERS) {
                return in.fail(Reader.TOO_MANY);
            }
            in.advance();
            boolean stays = in.isAt(Word.STAYS);
            if (!stays && !in.isAt(Word.MOVES)) {
                return in.fail(Reader.UNFIT);
            }
            in.advance();
            asked++;
            put(ANSWER, 2 * test + (stays ? 1 : 0));
            return true;
        }

        private void put(int act, int value) {
            if (lines >= 0 && lines < acts.length && lines < values.length) {
                acts[lines] = act;
                values[lines] = value;
                lines++;
            }
        }

        /** The LINE that is WRONG, or NONE; the NIGHT is one to work on. */
        int judge(Night night) {
            why = 0;
            began = 0;
            answers = 0;
            for (int line = 0; line < lines && line < acts.length && line < values.length; line++) {
                why = judgeLine(night, acts[line], values[line]);
                if (why != 0) {
                    return line;
                }
            }
            return NONE;
        }

        private int judgeLine(Night night, int act, int value) {
            if (act == IN) {
                night.begin(night.book);
                where = value;
                began++;
                return 0;
            }
            if (act != ANSWER) {
                return night.getsUp() == (act == UP) ? 0 : NOT_DONE_SO;
            }
            if (night.chanceOf(value >> 1, value & 1, where) == 0) {
                return CANNOT_BE;
            }
            night.add(value >> 1, value & 1);
            if (night.isWronglySure(where)) {
                return WRONGLY_SURE;
            }
            answers++;
            return 0;
        }
    }
}
