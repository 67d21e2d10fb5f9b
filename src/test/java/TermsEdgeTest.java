/** The edges that 'Terms' names, sentence by sentence: TOKENS, BOOKS, NIGHTS, TREES, SENTENCES and FAULTS. */
public final class TermsEdgeTest {
    private static final int BOOK = 0;
    private static final int NIGHTS = 1;
    private static final int TREE = 2;
    private static final int SENTENCE = 3;
    private static final int[] MOST_BYTES = {900, 400, 400, 200};
    private static final String EIGHT = "test ta 9 0;test tb 8 1;test tc 7 2;test td 6 3;"
        + "test te 5 4;test tf 4 5;test tg 3 6;test th 2 7;";
    private static final String SIX = "dream a 1;dream b 2;dream c 3;dream d 4;dream e 5;dream f 6;";

    private TermsEdgeTest() {
    }

    public static void main(String[] args) {
        blanks();
        blanksOrNot();
        signsInWords();
        signsInNumbers();
        ordersAndBrackets();
        lettersOfWords();
        digitsOfNumbers();
        numbersAsTold();
        onceEach();
        withoutLines();
        namesToldOnce();
        mostTestsAndDreams();
        keptOnce();
        mostBytes();
        readWhole();
        nightsLines();
        nightsTests();
        treeWays();
        onesInAll();
        onesWithin();
        onesBetween();
        ends();
        firstAlongTheText();
        leastOfOneToken();
        Due.done("TermsEdgeTest");
    }

    private static int read(DreamTests x, int sort, String text) {
        Due.put(x, text);
        return sort == BOOK ? x.book() : sort == NIGHTS ? x.nights() : sort == TREE ? x.tree() : x.sentence();
    }

    /** A text that is read ahead of which there is this BOOK; what it answers, and that it has no FAULT. */
    private static void fine(int sort, String book, String text, int want) {
        DreamTests x = Due.withBook(book);
        Due.is("the reading of '" + text + "'", want, read(x, sort, text));
        Due.is("no FAULT in '" + text + "'", 0, x.fault());
    }

    private static void faulty(int sort, String book, String text, int kind, int place) {
        DreamTests x = Due.withBook(book);
        Due.is("the FAULT's place in '" + text + "'", (sort == NIGHTS ? -2 : -1) - place, read(x, sort, text));
        Due.is("the FAULT's kind in '" + text + "'", kind, x.fault());
    }

    private static boolean isLetter(int sign) {
        return sign >= 97 && sign <= 122;
    }

    private static boolean isDigit(int sign) {
        return sign >= 48 && sign <= 57;
    }

    private static boolean isBlank(int sign) {
        return sign == 32 || sign == 10;
    }

    /** Blanks are 32 and 10 alone. */
    private static void blanks() {
        for (int sign = 0; sign < 256; sign++) {
            String text = "learn" + (char) sign + ";";
            if (isBlank(sign)) {
                fine(BOOK, "", text, 1);
            } else if (isLetter(sign) || isDigit(sign)) {
                faulty(BOOK, "", text, 1, 0);
            } else {
                faulty(BOOK, "", text, 1, sign == ';' ? 6 : 5);
            }
        }
    }

    /** Between TOKENS there are blanks or not: ahead of the first and behind the last one, too. */
    private static void blanksOrNot() {
        String book = "test a 9 0;dream k 1 a;";
        fine(BOOK, "", " \n test\n\na  9 \n0 ; \n", 1);
        fine(BOOK, "", "test a 9 0;test b 9 0;", 2);
        fine(NIGHTS, book, "in k;a stays;in room;a stays;", -1);
        fine(NIGHTS, book, "\n in \n k\n;\na  stays ; ", -1);
        fine(TREE, book, "a(up;bed)", 1);
        fine(TREE, book, " a\n( up \n;\nbed ) \n", 1);
        fine(SENTENCE, book, "(rooms<9)and not(good)", 5);
        fine(SENTENCE, book, "\n( rooms\n< 9\n) and\nnot ( good ) ", 5);
        // Without a blank two of them would be one
        faulty(BOOK, "", "testa 9 0;", 1, 0);
        faulty(BOOK, "", "test a9 0;", 1, 5);
        faulty(BOOK, "", "room20;", 1, 0);
        faulty(SENTENCE, book, "notgood", 1, 0);
        faulty(SENTENCE, book, "rooms<9and good", 1, 6);
    }

    /** WORDS are of small letters: 97 to 122, and no other sign. */
    private static void signsInWords() {
        for (int sign = 0; sign < 256; sign++) {
            String ahead = "test " + (char) sign + "a 1 1;";
            String behind = "test a" + (char) sign + " 1 1;";
            if (isLetter(sign)) {
                fine(BOOK, "", ahead, 1);
                fine(BOOK, "", behind, 1);
            } else if (isBlank(sign)) {
                fine(BOOK, "", ahead, 1);
                fine(BOOK, "", behind, 1);
            } else {
                faulty(BOOK, "", ahead, 1, 5);
                faulty(BOOK, "", behind, 1, isDigit(sign) ? 5 : 6);
            }
        }
    }

    /** NUMBERS are of digits: 48 to 57. */
    private static void signsInNumbers() {
        for (int sign = 0; sign < 256; sign++) {
            String ahead = "late " + (char) sign + "7;";
            String behind = "late 7" + (char) sign + ";";
            if (isDigit(sign) || isBlank(sign)) {
                fine(BOOK, "", ahead, 1);
                fine(BOOK, "", behind, 1);
                Due.is("as told by '" + behind + "'", isDigit(sign) ? 70 + sign - 48 : 7, Due.withBook(behind).count(5));
                Due.is("as told by '" + ahead + "'", isDigit(sign) ? 10 * (sign - 48) + 7 : 7,
                    Due.withBook(ahead).count(5));
            } else {
                faulty(BOOK, "", ahead, 1, 5);
                faulty(BOOK, "", behind, 1, isLetter(sign) ? 5 : sign == ';' ? 7 : 6);
            }
        }
    }

    /** The signs that are TOKENS, each where it can come and nowhere else. */
    private static void ordersAndBrackets() {
        String book = "test a 9 0;";
        for (int sign = 0; sign < 256; sign++) {
            boolean goesOn = isLetter(sign) || isDigit(sign);
            String order = "place" + (char) sign + "3";
            if (sign == '<' || sign == '=' || sign == '>') {
                fine(SENTENCE, book, order, 1);
            } else {
                faulty(SENTENCE, book, order, 1, goesOn ? 0 : isBlank(sign) ? 6 : 5);
            }
            String opened = "a" + (char) sign + "up;bed)";
            if (sign == '(') {
                fine(TREE, book, opened, 1);
            } else {
                faulty(TREE, book, opened, isLetter(sign) ? 3 : 1, goesOn ? 0 : isBlank(sign) ? 2 : 1);
            }
            String parted = "a(up " + (char) sign + " bed)";
            if (sign == ';') {
                fine(TREE, book, parted, 1);
            } else {
                faulty(TREE, book, parted, 1, isBlank(sign) ? 7 : 5);
            }
            String closed = "a(up;bed " + (char) sign;
            if (sign == ')') {
                fine(TREE, book, closed, 1);
            } else {
                faulty(TREE, book, closed, 1, isBlank(sign) ? 10 : 9);
            }
        }
    }

    /** A WORD has 1 to 7 letters; a longer one is none, however long and whatever its last letters are. */
    private static void lettersOfWords() {
        for (int n = 1; n <= 40; n++) {
            String text = "test " + "q".repeat(n) + " 1 1;";
            if (n <= 7) {
                fine(BOOK, "", text, 1);
            } else {
                faulty(BOOK, "", text, 1, 5);
                faulty(BOOK, "", "q".repeat(n) + "learn;", 1, 0);
            }
        }
        faulty(BOOK, "", "q".repeat(940), 1, 0);
        fine(TREE, "test abcdefg 1 1;test abcdefh 1 1;", "abcdefg(abcdefh(up;up);bed)", 2);
        faulty(TREE, "test abcdefg 1 1;", "abcdefgh(up;bed)", 1, 0);
        faulty(TREE, "test abcdefg 1 1;", "abcdef(up;bed)", 3, 0);
        faulty(TREE, "test a 1 1;", "aa(up;bed)", 3, 0);
    }

    /** A NUMBER has 1 or 2 digits; a longer one is none, and no wrap-around makes it small. */
    private static void digitsOfNumbers() {
        fine(BOOK, "", "late 0;", 1);
        fine(BOOK, "", "late 00;", 1);
        fine(BOOK, "", "late 99;", 1);
        faulty(BOOK, "", "late 000;", 1, 5);
        faulty(BOOK, "", "late 100;", 1, 5);
        faulty(BOOK, "", "late 4294967297;", 1, 5);
        faulty(BOOK, "", "late " + "0".repeat(930) + "1;", 1, 5);
        faulty(BOOK, "", "late -1;", 1, 5);
        faulty(SENTENCE, "test a 1 1;", "place < 100", 1, 8);
        fine(SENTENCE, "test a 1 1;", "place < 99", 1);
    }

    /** Each NUMBER of a BOOK from 0 to 99: the least and the greatest one that is as told, and all others. */
    private static void numbersAsTold() {
        String[] ahead = {"test a ", "test a 1 ", "dream k ", "room ", "tired ", "sure ", "late ", "wrong "};
        String[] behind = {" 1;", ";", ";", ";", ";", ";", ";", ";"};
        int[] least = {0, 0, 1, 1, 0, 5, 0, 0};
        int[] greatest = {9, 9, 20, 20, 12, 9, 99, 99};
        for (int i = 0; i < ahead.length; i++) {
            for (int n = 0; n <= 99; n++) {
                String text = ahead[i] + n + behind[i];
                if (n < least[i] || n > greatest[i]) {
                    faulty(BOOK, "", text, 2, ahead[i].length());
                    continue;
                }
                fine(BOOK, "", text, 1);
                DreamTests x = Due.withBook(text);
                int told = i < 2 ? x.test(0, i) : i == 2 ? x.dream(0, 0) : x.count(i - 1);
                Due.is("as told by '" + text + "'", n, told);
            }
        }
    }

    /** Six LINES are told once each: not again, though with another NUMBER; what the first one told stays. */
    private static void onceEach() {
        String[] lines = {"room 2;", "tired 3;", "sure 6;", "late 4;", "wrong 5;", "learn;"};
        String all = String.join("", lines);
        fine(BOOK, "", all, 6);
        for (String line : lines) {
            faulty(BOOK, "", all + line, 3, all.length());
            DreamTests x = Due.withBook(all);
            read(x, BOOK, "late 9;" + line + line);
            Due.is("the first BOOK stays", 4, x.count(5));
        }
        faulty(BOOK, "", "learn;learn", 3, 6);
        faulty(BOOK, "", "late 100;late 1;", 1, 5);
    }

    /** Without these LINES: 1, 0, 8, 1, 1, and no 'learn'; a LINE that tells the same changes nothing. */
    private static void withoutLines() {
        int[] want = {0, 0, 1, 0, 8, 1, 1, 0};
        String[] texts = {"", "room 1;tired 0;sure 8;late 1;wrong 1;", "sure 8;"};
        for (String text : texts) {
            DreamTests x = Due.withBook("room 20;tired 12;sure 5;late 0;wrong 0;learn;");
            Due.is("a new BOOK '" + text + "'", true, read(x, BOOK, text) >= 0);
            for (int what = 0; what < want.length; what++) {
                Due.is("count(" + what + ") without", want[what], x.count(what));
            }
        }
    }

    /** A NAME is told once, of whatever sort; it may be told anew in another BOOK. */
    private static void namesToldOnce() {
        faulty(BOOK, "", "test a 1 1;test a 2 2;", 3, 16);
        faulty(BOOK, "", "dream a 1;dream a 2;", 3, 16);
        faulty(BOOK, "", "test a 1 1;dream a 1;", 3, 17);
        faulty(BOOK, "", "dream a 1;test a 1 1;", 3, 15);
        faulty(BOOK, "", EIGHT + "dream th 1;", 3, EIGHT.length() + 6);
        faulty(BOOK, "", SIX + "test f 1 1;", 3, SIX.length() + 5);
        fine(BOOK, "test a 1 1;dream k 1;", "test k 1 1;dream a 1;", 2);
        fine(BOOK, "", "test a 1 1;test aa 1 1;dream aaa 1;", 3);
    }

    /** 8 TESTS and 6 DREAMS are the most, numbered from 0 each, whatever else is told between them. */
    private static void mostTestsAndDreams() {
        DreamTests x = Due.withBook("dream a 1;room 9;" + EIGHT + SIX.substring(10) + "learn;");
        Due.is("8 TESTS", 8, x.count(0));
        Due.is("6 DREAMS", 6, x.count(1));
        for (int i = 0; i < 8; i++) {
            Due.is("ROOM of TEST " + i, 9 - i, x.test(i, 0));
            Due.is("DREAM of TEST " + i, i, x.test(i, 1));
        }
        for (int i = 0; i < 6; i++) {
            Due.is("WEIGHT of DREAM " + i, i + 1, x.dream(i, 0));
        }
        String full = EIGHT + SIX;
        fine(BOOK, "", full, 14);
        faulty(BOOK, "", full + "test i 1 1;", 4, full.length());
        faulty(BOOK, "", full + "dream i 1;", 4, full.length());
        // At the LINE's first WORD, though what comes behind it is no better
        faulty(BOOK, "", EIGHT + "test ta 10 x", 4, EIGHT.length());
        faulty(BOOK, "", EIGHT + "test", 4, EIGHT.length());
        faulty(BOOK, "", SIX + "dream a 0 x", 4, SIX.length());
        faulty(BOOK, "", SIX + "dream", 4, SIX.length());
    }

    /** Each TEST stands once in a DREAM, all 8 may, and another DREAM may keep the same ones. */
    private static void keptOnce() {
        String all = EIGHT + "dream k 1 th tg tf te td tc tb ta";
        DreamTests x = Due.withBook(all + ";dream l 1 ta th;dream m 1;");
        Due.is("all 8", 255, x.dream(0, 1));
        Due.is("the first and the last one", 129, x.dream(1, 1));
        Due.is("none", 0, x.dream(2, 1));
        Due.is("who keeps the last one", 3, x.test(7, 3));
        Due.is("who keeps the seventh", 1, x.test(6, 3));
        for (int i = 0; i < 8; i++) {
            String name = " t" + (char) ('a' + i);
            faulty(BOOK, "", all + name + ";", 3, all.length() + 1);
            faulty(BOOK, "", EIGHT + "dream k 1" + name + name + ";", 3, EIGHT.length() + 13);
        }
        faulty(BOOK, "", "dream k 1 ta;" + EIGHT, 3, 10);
        faulty(BOOK, "", "dream k 1;dream l 1 k;", 3, 20);
        faulty(BOOK, "", "dream k 1 k;", 3, 10);
    }

    /** As many bytes as told are fine, one more is not: the FAULT is at the most bytes told. */
    private static void mostBytes() {
        String book = "test x 9 0;dream k 1;";
        String[] texts = {"learn;", "in k;", "x(up;bed)", "good"};
        int[] told = {1, -1, 1, 1};
        for (int sort = BOOK; sort <= SENTENCE; sort++) {
            int most = MOST_BYTES[sort];
            for (int size = most - 2; size <= most + 40; size++) {
                String blanks = " ".repeat(size - texts[sort].length());
                if (size <= most) {
                    fine(sort, book, texts[sort] + blanks, told[sort]);
                    fine(sort, book, blanks + texts[sort], told[sort]);
                } else {
                    faulty(sort, book, texts[sort] + blanks, 1, most);
                    faulty(sort, book, blanks + texts[sort], 1, most);
                }
            }
            // A FAULT ahead of it is the one that is told
            faulty(sort, book, "." + " ".repeat(most), 1, 0);
            faulty(sort, book, " ".repeat(most - 1) + ".", 1, most - 1);
            faulty(sort, book, " ".repeat(most - 1) + ". ", 1, most - 1);
            faulty(sort, book, " ".repeat(most) + ".", 1, most);
            faulty(sort, book, texts[sort] + " ".repeat(940 - texts[sort].length()), 1, most);
        }
        fine(BOOK, "", "", 0);
        fine(NIGHTS, book, "", -1);
        faulty(TREE, book, "", 1, 0);
        faulty(SENTENCE, book, "", 1, 0);
    }

    /** TOKENS that begin ahead of the most bytes are read whole, those that begin there are not read. */
    private static void readWhole() {
        for (int from = 890; from <= 905; from++) {
            String blanks = " ".repeat(from);
            if (from + 6 <= 900) {
                fine(BOOK, "", blanks + "learn;", 1);
            } else {
                faulty(BOOK, "", blanks + "learn;", 1, 900);
            }
            int place = Math.min(from, 900);
            faulty(BOOK, "", blanks + "learm;", 1, place);
            faulty(BOOK, "", blanks + "learning;", 1, place);
            faulty(BOOK, "", blanks.substring(5) + "sure 50;", from < 900 ? 2 : 1, place);
            faulty(BOOK, "", blanks.substring(5) + "sure 500;", 1, place);
            faulty(BOOK, "", "learn;" + blanks.substring(6) + "learn;", from < 900 ? 3 : 1, place);
        }
        String book = "test x 9 0;test xy 9 0;dream k 1;dream kk 1;";
        for (int from = 395; from <= 402; from++) {
            String blanks = " ".repeat(from - 5);
            int place = Math.min(from, 400);
            // 'xy' is told, 'x' as well, but 'xyz' is not
            faulty(TREE, book, "x(up;" + blanks + "xyz(up;up))", from < 400 ? 3 : 1, place);
            faulty(NIGHTS, book, "in k;" + blanks + "kk stays;", from < 400 ? 3 : 1, place);
            faulty(NIGHTS, book, "in k;" + blanks + "kk7 stays;", 1, place);
        }
        for (int from = 195; from <= 202; from++) {
            String blanks = " ".repeat(from - 5);
            faulty(SENTENCE, book, "kept " + blanks + "kkk", from < 200 ? 3 : 1, Math.min(from, 200));
            faulty(SENTENCE, book, "kept " + blanks + "kk7", 1, Math.min(from, 200));
        }
    }

    /** 40 LINES of NIGHTS are the most, of whatever sort, and the first one begins a night. */
    private static void nightsLines() {
        String book = "test x 5 5;dream k 1;";
        fine(NIGHTS, book, "", -1);
        faulty(NIGHTS, book, "x stays;", 1, 0);
        faulty(NIGHTS, book, "up;", 1, 0);
        faulty(NIGHTS, book, "bed;", 1, 0);
        faulty(NIGHTS, book, "room;", 1, 0);
        String[] lines = {"in k;", "in room;", "up;", "x stays;"};
        for (String last : lines) {
            String most = ("in k;" + "up;".repeat(9)).repeat(3) + "in k;" + "up;".repeat(8);
            fine(NIGHTS, book, most + last, -1);
            faulty(NIGHTS, book, most + last + last, 4, most.length() + last.length());
            // At the LINE's first WORD, though what comes behind it is no better
            faulty(NIGHTS, book, most + last + last.substring(0, last.length() - 1) + " .", 4,
                most.length() + last.length());
        }
    }

    /** 12 TESTS of a night are the most: the 13th is a FAULT; with each night they begin anew. */
    private static void nightsTests() {
        String book = "test x 5 5;test y 5 5;dream k 1;";
        String twelve = "in k;x stays;x moves;y stays;up;y moves;x stays;up;x moves;y moves;y stays;x stays;up;"
            + "x moves;y moves;y moves;";
        fine(NIGHTS, book, twelve, -1);
        fine(NIGHTS, book, twelve + "up;", -1);
        fine(NIGHTS, book, twelve + "in room;" + twelve.substring(5), -1);
        faulty(NIGHTS, book, twelve + "y stays;", 4, twelve.length());
        faulty(NIGHTS, book, twelve + "up;x moves;", 4, twelve.length() + 3);
        faulty(NIGHTS, book, twelve + "y .", 4, twelve.length());
        String again = twelve + "in k;" + twelve.substring(5);
        faulty(NIGHTS, book, again + "y stays;", 4, again.length());
        // With an 'in' between them a night has fewer
        fine(NIGHTS, book, twelve.substring(0, twelve.length() - 8) + "in k;y moves;y stays;", -1);
    }

    /** A TEST stands once on a way and on as many ways as there are; 4 are on a way at most. */
    private static void treeWays() {
        String book = "test a 5 5;test b 5 5;test c 5 5;test d 5 5;test e 5 5;dream k 1;";
        String below = "d(up;bed)";
        fine(TREE, book, "a(b(c(" + below + ";up);up);bed)", 4);
        fine(TREE, book, "a(b(c(" + below + ";" + below + ");c(" + below + ";" + below + "));"
            + "b(c(" + below + ";" + below + ");c(" + below + ";" + below + ")))", 15);
        fine(TREE, book, "a(b(up;c(up;bed));c(b(up;up);b(up;up)))", 6);
        faulty(TREE, book, "a(a(up;up);up)", 3, 2);
        faulty(TREE, book, "a(up;a(up;up))", 3, 5);
        faulty(TREE, book, "a(b(c(d(a(up;up)", 3, 8);
        faulty(TREE, book, "a(b(c(d(up;d(up;up)", 3, 11);
        faulty(TREE, book, "a(b(c(d(e(up;up)", 4, 8);
        faulty(TREE, book, "a(b(c(d(up;e", 4, 11);
        faulty(TREE, book, "a(up;b(up;c(up;d(up; e", 4, 21);
        faulty(TREE, book, "a(b(c(d(k(up;up)", 3, 8);
        faulty(TREE, book, "a(b(c(d(room", 1, 8);
        fine(TREE, book, "e(d(c(b(up;up);up);a(up;up));up)", 5);
    }

    /** 20 ONES are the most: each not, bracket and other one is one of them. */
    private static void onesInAll() {
        String book = "test a 9 0;dream k 1;";
        String[] last = {"good", "asked", "kept k", "rooms<1", "dreams=1", "place>1"};
        String nineteen = "(not good and asked) or ".repeat(4) + "good or asked and kept k ";
        for (String one : last) {
            fine(SENTENCE, book, nineteen + "or " + one, 20);
            faulty(SENTENCE, book, nineteen + "or not " + one, 4, nineteen.length() + 7);
            faulty(SENTENCE, book, nineteen + "or (" + one + ")", 4, nineteen.length() + 4);
            faulty(SENTENCE, book, nineteen + "or " + one + " and " + one, 4, nineteen.length() + one.length() + 8);
            faulty(SENTENCE, book, nineteen + "or " + one + " or " + one, 4, nineteen.length() + one.length() + 7);
        }
        String ands = "good and ".repeat(19);
        fine(SENTENCE, book, ands + "good", 20);
        faulty(SENTENCE, book, ands + "good and good", 4, ands.length() + 9);
        faulty(SENTENCE, book, ands + "good and not", 4, ands.length() + 9);
        faulty(SENTENCE, book, nineteen + "or good or (", 4, nineteen.length() + 11);
        faulty(SENTENCE, book, nineteen + "or good or not", 4, nineteen.length() + 11);
        faulty(SENTENCE, book, nineteen + "or good or kept x", 4, nineteen.length() + 11);
    }

    /** 8 ONES within one another are the most, the outermost one among them; beside one another more may be. */
    private static void onesWithin() {
        String book = "test a 9 0;dream k 1;";
        for (int nots = 0; nots <= 9; nots++) {
            for (int brackets = 0; nots + brackets <= 9; brackets++) {
                String text = "not ".repeat(nots) + "(".repeat(brackets) + "good" + ")".repeat(brackets);
                int within = nots + brackets + 1;
                if (within <= 8) {
                    fine(SENTENCE, book, text, within);
                } else {
                    // At the first TOKEN of the ninth one, a bracket too
                    int place = nots >= 8 ? 32 : 4 * nots + 8 - nots;
                    faulty(SENTENCE, book, text, 4, place);
                }
            }
        }
        fine(SENTENCE, book, "((((((( good )))))))or not not not not not not not good", 16);
        faulty(SENTENCE, book, "((((((( good and asked and not good )))))))", 4, 31);
        faulty(SENTENCE, book, "((((((( good or ( good", 4, 18);
    }

    /** Between ONES stands one 'or' or 'and', ahead of the first and behind the last one none. */
    private static void onesBetween() {
        String book = "test a 9 0;dream k 1;";
        String[] words = {"or", "and"};
        for (String word : words) {
            int size = word.length();
            fine(SENTENCE, book, "good " + word + " good", 2);
            faulty(SENTENCE, book, word + " good", 1, 0);
            faulty(SENTENCE, book, "good " + word, 1, 5 + size);
            for (String other : words) {
                faulty(SENTENCE, book, "good " + word + " " + other + " good", 1, 6 + size);
                faulty(SENTENCE, book, "(" + word + " good) " + other + " good", 1, 1);
                faulty(SENTENCE, book, "not " + word + " good " + other + " good", 1, 4);
                faulty(SENTENCE, book, "kept " + word + " good " + other + " good", 1, 5);
                faulty(SENTENCE, book, "kept x " + word + " good " + other + " good", 3, 5);
                faulty(SENTENCE, book, "place " + word + " good " + other + " good", 1, 6);
                faulty(SENTENCE, book, "place < " + word + " good " + other + " good", 1, 8);
            }
        }
        faulty(SENTENCE, book, "good good", 1, 5);
        faulty(SENTENCE, book, "good not good", 1, 5);
        faulty(SENTENCE, book, "good (good)", 1, 5);
        faulty(SENTENCE, book, "(good) (good)", 1, 7);
    }

    /** A text that ends too early has its FAULT behind its last byte, blanks and all. */
    private static void ends() {
        String book = "test a 9 0;dream k 1;";
        String[][] whole = {{"test b 9 0;", "dream l 1 ;", "learn;", "room 1;"},
            {"in room;", "in k;a stays;", "in k;up;"}, {"a(up;bed)", "a(a"}, {"not good", "kept k", "(good)", "rooms<9"}};
        for (int sort = BOOK; sort <= SENTENCE; sort++) {
            for (String text : whole[sort]) {
                for (int size = 1; size < text.length(); size++) {
                    char cut = text.charAt(size - 1);
                    char next = text.charAt(size);
                    boolean within = cut > ' ' && Character.isLetter(cut) && Character.isLetter(next);
                    String ahead = text.substring(0, size);
                    if (within || ahead.endsWith(";") && sort < TREE) {
                        continue;
                    }
                    faulty(sort, book, ahead, 1, size);
                    faulty(sort, book, ahead + " \n ", 1, size + 3);
                }
            }
        }
    }

    /** Of more than one FAULT the first along the text is told, whatever its kind. */
    private static void firstAlongTheText() {
        faulty(BOOK, "", "test a 10 x;.", 2, 7);
        faulty(BOOK, "", "test a 1 .;test a 1 1;", 1, 9);
        faulty(BOOK, "", "room 1;room 0;.", 3, 7);
        faulty(BOOK, "", EIGHT + "test ta . 10", 4, EIGHT.length());
        faulty(BOOK, "", "dream k 0 x;test 1 1;", 2, 8);
        faulty(TREE, "test a 1 1;", "a(b(.;up);a(up;up))", 3, 2);
        faulty(TREE, "test a 1 1;", "a(.;b)", 1, 2);
        faulty(SENTENCE, "", "kept k and .", 3, 5);
        faulty(SENTENCE, "", "good . kept k", 1, 5);
        faulty(NIGHTS, "", "in k;.", 3, 3);
        faulty(NIGHTS, "", "in .;in k;", 1, 3);
    }

    /** Of one TOKEN with more than one FAULT the least is told. */
    private static void leastOfOneToken() {
        String book = "test x 5 5;dream k 1;";
        // 1 ahead of 3: no LINE but 'in' can come first, and what comes there is not told
        faulty(NIGHTS, book, "foo stays;", 1, 0);
        faulty(NIGHTS, book, "k stays;", 1, 0);
        // 1 ahead of 4 and 3 ahead of 4: the 41st LINE, the 13th TEST, the fifth TEST of a way
        String forty = "in k;" + "bed;up;".repeat(19) + "up;";
        faulty(NIGHTS, book, forty + "room;", 1, forty.length());
        faulty(NIGHTS, book, forty + "7;", 1, forty.length());
        faulty(NIGHTS, book, forty + "foo stays;", 3, forty.length());
        faulty(NIGHTS, book, forty + "k stays;", 3, forty.length());
        faulty(NIGHTS, book, forty + "x stays;", 4, forty.length());
        String twelve = "in k;" + "x stays;".repeat(12);
        faulty(NIGHTS, book, twelve + "good stays;", 1, twelve.length());
        faulty(NIGHTS, book, twelve + "k stays;", 3, twelve.length());
        String five = "test a 1 1;test b 1 1;test c 1 1;test d 1 1;test e 1 1;";
        faulty(TREE, five, "a(b(c(d(learn", 1, 8);
        faulty(TREE, five, "a(b(c(d(b", 3, 8);
        faulty(TREE, five, "a(b(c(d(f", 3, 8);
        faulty(TREE, five, "a(b(c(d(e", 4, 8);
        // What can't come is no ninth ONE within and no 21st
        faulty(SENTENCE, book, "((((((((or", 1, 8);
        faulty(SENTENCE, book, "((((((((x", 1, 8);
        faulty(SENTENCE, book, "((((((((good", 4, 8);
        String twenty = "good or ".repeat(20);
        faulty(SENTENCE, book, twenty, 1, twenty.length());
        faulty(SENTENCE, book, twenty + "k", 1, twenty.length());
        faulty(SENTENCE, book, twenty + "good", 4, twenty.length());
        // A kept word is no NAME at all, a NUMBER of three digits is none
        faulty(BOOK, "", "test room 1 1;", 1, 5);
        faulty(BOOK, "", "sure 100;", 1, 5);
    }
}
