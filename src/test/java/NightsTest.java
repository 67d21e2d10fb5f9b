/** Promises 37 and 38 (and 5): NIGHTS, their FAULTS, and how they are judged. */
public final class NightsTest {
    private static final String BOOK = "test x 9 0;test y 8 2;test z 5 5;dream k 2 x;dream l 1;room 3;late 2;wrong 3;";

    private NightsTest() {
    }

    public static void main(String[] args) {
        unfit();
        names();
        tooMany();
        mostBytes();
        right();
        cannotBe();
        wronglySure();
        notDoneSo();
        theLeast();
        learns();
        judged();
        nothingElseChanges();
        Due.done("NightsTest");
    }

    private static void faulty(String text, int kind, int place) {
        DreamTests x = Due.withBook(BOOK);
        Due.is("nights() of '" + text + "'", -2 - place, Due.put(x, text).nights());
        Due.is("fault() of NIGHTS '" + text + "'", kind, x.fault());
        Due.is("judged(0), never", -1, x.judged(0));
    }

    private static void judgedAs(DreamTests x, String text, int line, int why, int began, int answers) {
        Due.is("nights() of '" + text + "'", line, Due.put(x, text).nights());
        Due.is("fault() of NIGHTS '" + text + "'", 0, x.fault());
        Due.is("judged(0) of '" + text + "'", why, x.judged(0));
        Due.is("judged(1) of '" + text + "'", began, x.judged(1));
        Due.is("judged(2) of '" + text + "'", answers, x.judged(2));
    }

    private static void unfit() {
        faulty(";", 1, 0);
        faulty("x stays;", 1, 0);
        faulty("up;", 1, 0);
        faulty("foo stays;", 1, 0);
        faulty("in", 1, 2);
        faulty("in;", 1, 2);
        faulty("in room", 1, 7);
        faulty("in room k;", 1, 8);
        faulty("in 1;", 1, 3);
        faulty("in bed;", 1, 3);
        faulty("in rooms;", 1, 3);
        faulty("in room;x;", 1, 9);
        faulty("in room;x up;", 1, 10);
        faulty("in room;x stay;", 1, 10);
        faulty("in room;x stays", 1, 15);
        faulty("in room;x stays moves;", 1, 16);
        faulty("in room;up up;", 1, 11);
        faulty("in room;;", 1, 8);
        faulty("in room;stays x;", 1, 8);
        faulty("in room;room;", 1, 8);
        faulty("in room;good stays;", 1, 8);
        faulty("in room;7 stays;", 1, 8);
        faulty("in room;(x stays);", 1, 8);
    }

    private static void names() {
        faulty("in x;", 3, 3);
        faulty("in foo;", 3, 3);
        faulty("in room;k stays;", 3, 8);
        faulty("in room;foo stays;", 3, 8);
        faulty("in room;x stays;y stays;stay x;", 3, 24);
    }

    private static void tooMany() {
        String twelve = "in k;" + "z stays;".repeat(12);
        DreamTests x = Due.withBook(BOOK);
        judgedAs(x, twelve + "up;in l;" + "z stays;".repeat(12), 13, 3, 1, 12);
        faulty(twelve + "z stays;", 4, twelve.length());
        faulty(twelve + "up; z", 4, twelve.length() + 4);
        faulty(twelve + "foo", 3, twelve.length());
        faulty(twelve + "good", 1, twelve.length());
        String forty = "in k;".repeat(40);
        judgedAs(x, forty, -1, 0, 40, 0);
        faulty(forty + "in k;", 4, forty.length());
        faulty(forty + " bed", 4, forty.length() + 1);
        faulty(forty + "up;", 4, forty.length());
        faulty(forty + "z stays;", 4, forty.length());
        faulty(forty + "k", 3, forty.length());
        faulty(forty + "room", 1, forty.length());
        faulty(forty + ";", 1, forty.length());
    }

    private static void mostBytes() {
        DreamTests x = Due.withBook(BOOK);
        judgedAs(x, "in k;" + " ".repeat(395), -1, 0, 1, 0);
        faulty("in k;" + " ".repeat(396), 1, 400);
        faulty("in k;" + " ".repeat(391) + "in k;", 1, 400);
        faulty("in k;" + " ".repeat(391) + "in  x;", 1, 400);
        faulty("in k;" + " ".repeat(391) + "in x;", 3, 399);
        faulty("in k;" + " ".repeat(391) + "in room;", 1, 400);
    }

    private static void right() {
        DreamTests x = Due.withBook(BOOK);
        judgedAs(x, "", -1, 0, 0, 0);
        judgedAs(x, " \n", -1, 0, 0, 0);
        judgedAs(x, "in room;bed;", -1, 0, 1, 0);
        judgedAs(x, "in room;x stays;y stays;up;in l;x moves;bed;in k;bed;y moves;bed;", -1, 0, 3, 4);
        judgedAs(x, "in room;bed;bed;y stays;up;up;", -1, 0, 1, 1);
    }

    private static void cannotBe() {
        DreamTests x = Due.withBook(BOOK);
        judgedAs(x, "in room;y stays;x moves;", 2, 1, 1, 1);
        judgedAs(x, "in k;x moves;", 1, 1, 1, 0);
        judgedAs(x, "in room;in l;z stays;x stays;bed;", 3, 1, 2, 1);
        DreamTests y = Due.withBook("test a 5 5;dream k 1;tired 2;");
        judgedAs(y, "in k;a moves;in k;a stays;a moves;", 4, 1, 2, 2);
        judgedAs(y, "in room;a moves;a stays;a stays;", -1, 0, 1, 3);
    }

    private static void wronglySure() {
        DreamTests x = Due.withBook(BOOK);
        // y STAYS: 4 by 5 that it is the room; twice: 16 by 17, which is 8 by 9 and more
        judgedAs(x, "in k;y stays;y stays;", 2, 2, 1, 1);
        judgedAs(x, "in room;y stays;y stays;", -1, 0, 1, 2);
        // y MOVES: 7 by 8 that one dreams; twice: 49 by 50
        judgedAs(x, "in room;y moves;y moves;", 2, 2, 1, 1);
        judgedAs(x, "in k;y moves;y moves;", -1, 0, 1, 2);
        String sureBy = "test y 8 1;dream k 1;sure ";
        judgedAs(Due.withBook(sureBy + "8;"), "in k;y stays;", 1, 2, 1, 0);
        judgedAs(Due.withBook(sureBy + "9;"), "in k;y stays;", -1, 0, 1, 1);
        judgedAs(Due.withBook("test y 1 8;dream k 1;sure 8;"), "in room;y stays;", 1, 2, 1, 0);
        judgedAs(Due.withBook("test y 1 8;dream k 1;sure 9;"), "in room;y stays;", -1, 0, 1, 1);
        judgedAs(Due.withBook("test y 9 0;dream k 1;sure 9;"), "in room;y stays;in k;y moves;y moves;", -1, 0, 2, 3);
        // At first one is sure too, but that is behind no answer
        judgedAs(Due.withBook("test z 5 5;dream k 1;room 20;"), "in k;up;in k;z stays;", 3, 2, 2, 0);
        judgedAs(Due.withBook("test z 5 5;dream k 20;"), "in room;bed;in room;z stays;", 3, 2, 2, 0);
    }

    private static void notDoneSo() {
        DreamTests x = Due.withBook(BOOK);
        judgedAs(x, "in room;up;", 1, 3, 1, 0);
        judgedAs(x, "in room;y stays;bed;", 2, 3, 1, 1);
        judgedAs(x, "in k;y moves;up;", 2, 3, 1, 1);
        judgedAs(x, "in k;y moves;bed;in room;up;", 4, 3, 2, 1);
        // As likely as not, one GETS UP, if both cost as much
        judgedAs(Due.withBook("dream k 1;"), "in k;up;bed;", 2, 3, 1, 0);
    }

    private static void theLeast() {
        // x can't MOVE in the room, and behind it one would be sure that one dreams
        judgedAs(Due.withBook(BOOK), "in room;x moves;up;", 1, 1, 1, 0);
    }

    private static void learns() {
        String text = "in k;y stays;y stays;";
        // Learnt, y tells nothing more: 4 by 5 stays below 8 by 9
        judgedAs(Due.withBook(BOOK + "learn;"), text, -1, 0, 1, 2);
        judgedAs(Due.withBook(BOOK + "tired 2;"), text, -1, 0, 1, 2);
        judgedAs(Due.withBook(BOOK + "learn;"), "in k;y stays;in k;y stays;y moves;", -1, 0, 2, 3);
        judgedAs(Due.withBook("test a 9 0;dream k 1;learn;"), "in k;a moves;a moves;", 2, 1, 1, 1);
    }

    private static void judged() {
        DreamTests x = Due.withBook(BOOK);
        for (int what = -1; what <= 3; what++) {
            Due.is("ahead of any, judged(" + what + ")", -1, x.judged(what));
        }
        judgedAs(x, "in room;z stays;x moves;", 2, 1, 1, 1);
        Due.is("a FAULT", -10, Due.put(x, "in room;;").nights());
        Due.is("why, as before the FAULT", 1, x.judged(0));
        Due.is("began, as before the FAULT", 1, x.judged(1));
        Due.is("answers, as before the FAULT", 1, x.judged(2));
        Due.is("judged(3)", -1, x.judged(3));
        Due.is("judged(-1)", -1, x.judged(-1));
        judgedAs(x, "", -1, 0, 0, 0);
    }

    private static void nothingElseChanges() {
        DreamTests x = Due.withBook(BOOK);
        x.ask(1, 0);
        judgedAs(x, "in k;y stays;z moves;", -1, 0, 1, 2);
        Due.is("this NIGHT stands", 1, x.count(8));
        Due.is("its answer", 2, x.answer(0));
        Due.is("y was asked once", 1, x.test(1, 2));
        Due.is("one act to undo", 0, x.undo());
    }
}
