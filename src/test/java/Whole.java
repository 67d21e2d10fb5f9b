import java.util.ArrayDeque;
import java.util.ArrayList;
import java.util.Deque;
import java.util.List;

/** A whole object once more, as the document tells it: what each act leaves, told from scratch by the model. */
final class Whole {
    Model book = new Model();
    List<Integer> night = new ArrayList<>();
    Node tree;
    Said said;
    int fault;
    int[] judged = {-1, -1, -1};
    String text = "";
    String tape = "";
    private final Deque<List<Integer>> past = new ArrayDeque<>();
    private final Kept[] images = new Kept[2];

    private record Kept(Model book, List<Integer> night, Node tree, Said said) {
    }

    /** A TREE: 'up' (-1), 'bed' (-2), or a TEST and what comes behind it. */
    record Node(int act, Node stays, Node moves) {
        String text() {
            return act == -1 ? "up" : act == -2 ? "bed"
                : Model.testName(act) + "(" + stays.text() + ";" + moves.text() + ")";
        }

        int tests() {
            return act < 0 ? 0 : 1 + stays.tests() + moves.tests();
        }

        Model.Part worth(Model m, Model.Part[] places) {
            if (act < 0) {
                return act == -1 ? m.costOfUp(places) : m.costOfBed(places);
            }
            return stays.worth(m, m.behind(places, act, 1)).plus(moves.worth(m, m.behind(places, act, 0)));
        }

        int leads(List<Integer> night) {
            if (night.isEmpty()) {
                return act == -1 ? 1 : act == -2 ? 0 : 10 + act;
            }
            int answer = night.get(0);
            if (act != answer / 2) {
                return -2;
            }
            return (answer % 2 == 1 ? stays : moves).leads(night.subList(1, night.size()));
        }
    }

    /** What a SENTENCE says of a TEST, in a NIGHT. */
    interface Says {
        boolean of(Model m, List<Integer> night, int test);
    }

    /** What a SENTENCE tells: its text, its ONES, and of which TEST it may be said. */
    record Said(String text, int ones, Says says) {
        List<Integer> tests(Model m, List<Integer> night) {
            List<Integer> all = new ArrayList<>();
            for (int t = 0; t < m.tests; t++) {
                if (says.of(m, night, t)) {
                    all.add(t);
                }
            }
            return all;
        }
    }

    /** A LINE of NIGHTS: 'i' and a place, 'a' and an answer, 'u', 'b'. */
    record Line(char act, int value) {
        String text() {
            if (act == 'i') {
                return "in " + (value == 0 ? "room" : Model.dreamName(value - 1)) + ";";
            }
            if (act == 'a') {
                return Model.testName(value / 2) + (value % 2 == 1 ? " stays;" : " moves;");
            }
            return act == 'u' ? "up;" : "bed;";
        }
    }

    void newBook(Model m) {
        book = m;
        night = new ArrayList<>();
        tree = null;
        said = null;
        past.clear();
    }

    private void act(List<Integer> next) {
        past.addLast(night);
        if (past.size() > 8) {
            past.removeFirst();
        }
        night = next;
    }

    /** The model works on its own NIGHT: this one. */
    Model here() {
        book.night.clear();
        book.night.addAll(night);
        return book;
    }

    int ask(int test, int stays) {
        boolean such = test >= 0 && test < book.tests && (stays == 0 || stays == 1);
        if (!such || night.size() >= 12 || !here().canBe(test, stays)) {
            return -1;
        }
        act(book.with(night, test, stays));
        return night.size();
    }

    int sleep() {
        act(new ArrayList<>());
        return past.getLast().size();
    }

    boolean canDraw(int n) {
        return n >= 0 && n <= 12 && (n == 0 || book.tests > 0);
    }

    int drawn(int n, int seed) {
        if (!canDraw(n)) {
            return -1;
        }
        List<Integer> next = new ArrayList<>();
        int where = book.draw(next, n, seed);
        act(next);
        return where;
    }

    int wrongs(int m, int n, int seed) {
        if (m < 1 || m > 60 || !canDraw(n)) {
            return -1;
        }
        int wrong = 0;
        for (int i = 0; i < m; i++) {
            List<Integer> other = new ArrayList<>();
            wrong += (book.draw(other, n, seed + i) == 0) == book.up(other) ? 0 : 1;
        }
        return wrong;
    }

    int undo() {
        if (past.isEmpty()) {
            return -1;
        }
        night = past.removeLast();
        return past.size();
    }

    boolean image(int k) {
        if (k == 0 || k == 1) {
            images[k] = new Kept(book, night, tree, said);
        }
        return k == 0 || k == 1;
    }

    boolean restore(int k) {
        if (k != 0 && k != 1 || images[k] == null) {
            return false;
        }
        newBook(images[k].book);
        night = images[k].night;
        tree = images[k].tree;
        said = images[k].said;
        return true;
    }

    int nights(List<Line> lines) {
        judged = new int[3];
        List<Integer> answers = new ArrayList<>();
        int where = 0;
        for (int i = 0; i < lines.size(); i++) {
            Line line = lines.get(i);
            if (line.act == 'i') {
                answers = new ArrayList<>();
                where = line.value;
                judged[1]++;
            } else if (line.act == 'a') {
                answers.add(line.value);
                judged[0] = why(answers, where);
            } else {
                judged[0] = book.up(answers) == (line.act == 'u') ? 0 : 3;
            }
            if (judged[0] > 0) {
                return i;
            }
            judged[2] += line.act == 'a' ? 1 : 0;
        }
        return -1;
    }

    private int why(List<Integer> answers, int where) {
        if (book.together(answers, where).compare(Model.ZERO) == 0) {
            return 1;
        }
        Model.Part room = book.sure(answers, 0);
        Model.Part against = where > 0 ? room : Model.ONE.minus(room);
        return against.times(9, 1).compare(Model.Part.of(book.sure, 1)) >= 0 ? 2 : 0;
    }
}
