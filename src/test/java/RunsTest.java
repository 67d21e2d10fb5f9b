import java.util.ArrayList;
import java.util.List;
import java.util.Random;
import java.util.function.IntToLongFunction;

/** Runs of calls at random, all sorts of them mixed, each answer against a whole object told once more. */
public final class RunsTest {
    private static final int RUNS = 400;

    private final int seed;
    private final Random random;
    private final DreamTests x = new DreamTests();
    private final Whole w = new Whole();
    private int calls = 1;
    private String last = "the beginning";

    private RunsTest(int seed) {
        this.seed = seed;
        random = new Random(seed);
    }

    public static void main(String[] args) {
        for (int seed = 0; seed < RUNS; seed++) {
            new RunsTest(seed).go();
        }
        Due.done("RunsTest");
    }

    /** A text comes by 50 calls at most, its reading and what is looked at behind it are some 20 more. */
    private void go() {
        while (calls < 512 - 75) {
            act();
            for (int i = 0; i < 3; i++) {
                look(random.nextInt(31));
            }
        }
    }

    private void is(String call, long want, long got) {
        calls++;
        Due.is("run " + seed + ", behind " + last + ": " + call, want, got);
    }

    private void fraction(String call, Model.Part want, IntToLongFunction got) {
        calls += 2;
        String due = want == null ? "none" : want.told();
        Due.same("run " + seed + ", behind " + last + ": " + call, due, Due.fraction(got));
    }

    private int any(int most) {
        return random.nextInt(most + 3) - 1;
    }

    private void act() {
        int kind = random.nextInt(24);
        int k = any(1);
        if (kind < 4) {
            texts(kind);
        } else if (kind == 4) {
            spoiled();
        } else if (kind == 5) {
            is("image(" + k + ")", w.image(k) ? 1 : 0, x.image(k) ? 1 : 0);
            last = "image(" + k + ")";
        } else if (kind == 6) {
            is("restore(" + k + ")", w.restore(k) ? 1 : 0, x.restore(k) ? 1 : 0);
            last = "restore(" + k + ")";
        } else if (kind == 7) {
            is("sleep()", w.sleep(), x.sleep());
            last = "sleep()";
        } else if (kind == 8) {
            int n = any(12);
            int from = random.nextInt();
            is("drawn(" + n + ", " + from + ")", w.drawn(n, from), x.drawn(n, from));
            last = "drawn()";
        } else if (kind < 12) {
            is("undo()", w.undo(), x.undo());
            last = "undo()";
        } else if (kind == 12) {
            write();
        } else if (kind == 13) {
            tape();
        } else {
            int test = random.nextInt(5) == 0 ? any(w.book.tests) : random.nextInt(Math.max(w.book.tests, 1));
            int stays = random.nextInt(20) == 0 ? any(1) : random.nextInt(2);
            is("ask(" + test + ", " + stays + ")", w.ask(test, stays), x.ask(test, stays));
            last = "ask(" + test + ", " + stays + ")";
        }
    }

    private void put(String text) {
        Due.put(x, text);
        calls += 2 + (text.length() + 19) / 20;
        w.tape = "";
        w.fault = 0;
    }

    private void texts(int sort) {
        if (sort == Texts.BOOK) {
            // A BOOK ends most of what there is: not too often
            if (random.nextInt(3) > 0 && w.book.tests > 0) {
                return;
            }
            Model m = new Model(random, 8);
            put(m.text());
            w.newBook(m);
            is("book() of " + m.text(), m.lines(), x.book());
            last = "the BOOK " + m.text();
        } else if (sort == Texts.NIGHTS) {
            List<Whole.Line> lines = lines();
            String text = text(lines);
            put(text);
            is("nights() of " + text, w.nights(lines), x.nights());
            last = "the NIGHTS " + text;
        } else if (sort == Texts.TREE) {
            Whole.Node tree = tree(0, 0);
            put(tree.text());
            w.tree = tree;
            is("tree() of " + tree.text(), tree.tests(), x.tree());
            last = "the TREE " + tree.text();
        } else {
            Whole.Said said = cond(1);
            if (said.ones() > 20 || said.text().length() > 200) {
                return;
            }
            put(said.text());
            w.said = said;
            is("sentence() of " + said.text(), said.ones(), x.sentence());
            last = "the SENTENCE " + said.text();
        }
    }

    /** A text that was right, and has a FAULT now. */
    private void spoiled() {
        int sort = random.nextInt(4);
        Whole.Node tree = tree(0, 0);
        String text = sort == 0 ? new Model(random, 8).text() : sort == 1 ? text(lines()) : sort == 2 ? tree.text()
            : cond(1).text();
        int at = random.nextInt(text.length() + 1);
        String[] more = {"", "#", "up", "zz", ";", "7", "room ", "(", "not "};
        String spoilt = random.nextInt(3) == 0 ? text.substring(0, at)
            : text.substring(0, at) + more[random.nextInt(more.length)] + text.substring(at);
        Texts due = new Texts(sort, spoilt, sort == 0 ? List.of() : names(true), sort == 0 ? List.of() : names(false));
        if (due.kind == 0 || spoilt.length() > 940) {
            return;
        }
        put(spoilt);
        w.fault = due.kind;
        int told = sort == 0 ? x.book() : sort == 1 ? x.nights() : sort == 2 ? x.tree() : x.sentence();
        is("a FAULT of sort " + sort + " in " + spoilt, (sort == 1 ? -2 : -1) - due.place, told);
        last = "the FAULT in " + spoilt;
    }

    private List<String> names(boolean tests) {
        List<String> names = new ArrayList<>();
        for (int i = 0; i < (tests ? w.book.tests : w.book.dreams); i++) {
            names.add(tests ? Model.testName(i) : Model.dreamName(i));
        }
        return names;
    }

    /** What stands on the tape between the texts. */
    private void tape() {
        int a = random.nextInt();
        boolean fits = w.tape.length() + 20 <= 940;
        is("feed()", fits ? w.tape.length() + 20 : -1, x.feed(a, a, a, a, a));
        w.tape += fits ? "#".repeat(20) : "";
        int n = any(w.tape.length());
        boolean ends = n >= 0 && n <= w.tape.length();
        is("end(" + n + ")", ends ? 1 : 0, x.end(n) ? 1 : 0);
        w.tape = ends ? w.tape.substring(0, n) : w.tape;
        last = "end(" + n + ")";
    }

    private void write() {
        int n = any(4);
        // The model tries all ways
        if (w.book.tests > 4 && n > 2) {
            return;
        }
        boolean such = n >= 0 && n <= 4 && w.book.tests <= 6;
        Model.Part[] places = w.book.atFirst();
        w.text = such ? w.book.write(places, n, 0) : w.text;
        is("write(" + n + ")", such ? w.text.length() : -1, x.write(n));
        is("first(" + n + ")", such ? w.book.first(places, n, 0) : -1, x.first(n));
        fraction("cost(" + n + ")", such ? w.book.cost(places, n, 0) : null, i -> x.cost(n, i));
        last = "write(" + n + ")";
    }

    private List<Whole.Line> lines() {
        List<Whole.Line> lines = new ArrayList<>();
        int most = random.nextInt(random.nextInt(4) == 0 ? 41 : 8);
        List<Integer> answers = new ArrayList<>();
        int length = 0;
        for (int i = 0; i < most && length < 380; i++) {
            int act = i == 0 ? 0 : random.nextInt(8);
            Whole.Line line;
            if (act == 0) {
                line = new Whole.Line('i', random.nextInt(w.book.dreams + 1));
                answers.clear();
            } else if (act < 3 || w.book.tests == 0 || answers.size() == 12) {
                boolean up = random.nextInt(12) == 0 || w.book.anywhere(answers).compare(Model.ZERO) == 0
                    ? random.nextBoolean() : w.book.up(answers);
                line = new Whole.Line(up ? 'u' : 'b', 0);
            } else {
                int answer = random.nextInt(2 * w.book.tests);
                answers.add(answer);
                line = new Whole.Line('a', answer);
            }
            lines.add(line);
            length += line.text().length();
        }
        return lines;
    }

    private static String text(List<Whole.Line> lines) {
        StringBuilder text = new StringBuilder();
        for (Whole.Line line : lines) {
            text.append(line.text());
        }
        return text.toString();
    }

    private Whole.Node tree(int way, int depth) {
        int test = random.nextInt(Math.max(w.book.tests, 1));
        if (depth < w.night.size() && random.nextInt(3) > 0) {
            test = w.night.get(depth) / 2;
        }
        if (w.book.tests == 0 || depth == 4 || (way >> test & 1) == 1 || random.nextInt(6) == 0) {
            return new Whole.Node(-1 - random.nextInt(2), null, null);
        }
        return new Whole.Node(test, tree(way | 1 << test, depth + 1), tree(way | 1 << test, depth + 1));
    }

    private Whole.Said cond(int within) {
        Whole.Said a = all(within);
        for (int i = random.nextInt(3); i > 0; i--) {
            Whole.Said one = a;
            Whole.Said b = all(within);
            a = new Whole.Said(one.text() + " or " + b.text(), one.ones() + b.ones(),
                (m, night, t) -> one.says().of(m, night, t) || b.says().of(m, night, t));
        }
        return a;
    }

    private Whole.Said all(int within) {
        Whole.Said a = one(within);
        for (int i = random.nextInt(3); i > 0; i--) {
            Whole.Said one = a;
            Whole.Said b = one(within);
            a = new Whole.Said(one.text() + " and " + b.text(), one.ones() + b.ones(),
                (m, night, t) -> one.says().of(m, night, t) && b.says().of(m, night, t));
        }
        return a;
    }

    private Whole.Said one(int within) {
        int kind = random.nextInt(within < 8 ? 8 : 6);
        if (kind == 7) {
            Whole.Said in = one(within + 1);
            return new Whole.Said("not " + in.text(), in.ones() + 1, (m, night, t) -> !in.says().of(m, night, t));
        }
        if (kind == 6) {
            Whole.Said in = cond(within + 1);
            return new Whole.Said("(" + in.text() + ")", in.ones() + 1, in.says());
        }
        if (kind == 5) {
            return new Whole.Said("good", 1, (m, night, t) -> m.room[t] == 9 && m.dreaming[t] == 0);
        }
        if (kind >= 3) {
            return new Whole.Said("asked", 1, (m, night, t) -> night.contains(2 * t) || night.contains(2 * t + 1));
        }
        int dream = random.nextInt(Math.max(w.book.dreams, 1));
        if (kind == 2 && w.book.dreams > 0) {
            return new Whole.Said("kept " + Model.dreamName(dream), 1, (m, night, t) -> (m.keeps[dream + 1] >> t & 1) == 1);
        }
        String word = new String[] {"rooms", "dreams", "place"}[random.nextInt(3)];
        int sign = random.nextInt(3) - 1;
        int number = random.nextInt(11);
        return new Whole.Said(word + "<=>".charAt(sign + 1) + number, 1, (m, night, t) -> {
            int value = word.equals("rooms") ? m.room[t] : word.equals("dreams") ? m.dreaming[t] : t;
            return Integer.compare(value, number) == sign;
        });
    }

    private boolean isTest(int test) {
        return test >= 0 && test < w.book.tests;
    }

    private boolean isDream(int dream) {
        return dream >= 0 && dream < w.book.dreams;
    }

    /** One call that changes nothing. */
    private void look(int call) {
        if (call < 9) {
            lookAtBook(call);
        } else if (call < 20) {
            lookAtNight(call);
        } else {
            lookAtRest(call);
        }
    }

    private void lookAtBook(int call) {
        Model m = w.book;
        int test = any(m.tests);
        int dream = any(m.dreams);
        int what = any(3);
        int set = random.nextInt(1 << m.tests) + (random.nextInt(8) == 0 ? 1 << m.tests : 0);
        switch (call) {
            case 0: is("fault()", w.fault, x.fault()); break;
            case 1: lookAtTest(test, what); break;
            case 2: {
                int due = !isDream(dream) || what < 0 || what > 1 ? -1 : what == 0 ? m.weight[dream + 1] : m.keeps[dream + 1];
                is("dream(" + dream + ", " + what + ")", due, x.dream(dream, what));
                break;
            }
            case 3: is("enough()", m.enough(), x.enough()); break;
            case 4: {
                int first = -1;
                for (int p = m.dreams; p > 0; p--) {
                    first = (m.good() & ~m.keeps[p]) == 0 ? p - 1 : first;
                }
                is("forger()", first, x.forger());
                break;
            }
            case 5: {
                boolean such = set < 1 << m.tests && Integer.bitCount(set) <= 5;
                fraction("error(" + set + ")", such ? m.error(set) : null, i -> x.error(set, i));
                break;
            }
            case 6: fraction("fails(" + set + ")", set < 1 << m.tests ? m.fails(set) : null, i -> x.fails(set, i)); break;
            case 7: {
                int lot = m.lotSet();
                fraction("lot", lot == 0 ? null : m.lot(lot), x::lot);
                boolean such = lot != 0 && isTest(test);
                fraction("share(" + test + ")", such ? m.share(lot, test) : null, i -> x.share(test, i));
                break;
            }
            default: {
                int other = any(m.dreams);
                int due = isDream(dream) && isDream(other) ? Integer.bitCount(m.keeps[dream + 1] ^ m.keeps[other + 1]) : -1;
                is("apart(" + dream + ", " + other + ")", due, x.apart(dream, other));
            }
        }
    }

    private void lookAtTest(int test, int what) {
        int due = -1;
        if (isTest(test) && what >= 0 && what <= 3) {
            int asked = 0;
            for (int answer : w.night) {
                asked += answer / 2 == test ? 1 : 0;
            }
            int keepers = 0;
            for (int p = 1; p <= w.book.dreams; p++) {
                keepers |= (w.book.keeps[p] >> test & 1) << p - 1;
            }
            due = new int[] {w.book.room[test], w.book.dreaming[test], asked, keepers}[what];
        }
        is("test(" + test + ", " + what + ")", due, x.test(test, what));
    }

    private void lookAtNight(int call) {
        Model m = w.here();
        int test = any(m.tests);
        int dream = any(m.dreams);
        int i = any(w.night.size());
        switch (call) {
            case 9: {
                int due = isTest(test) && (dream == -1 || isDream(dream)) ? m.stays(w.night, test, dream + 1) : -1;
                is("stays(" + test + ", " + dream + ")", due, x.stays(test, dream));
                break;
            }
            case 10: is("answer(" + i + ")", i >= 0 && i < w.night.size() ? w.night.get(i) : -1, x.answer(i)); break;
            case 11: fraction("sure", m.sure(w.night, 0), x::sure); break;
            case 12: fraction("odds", isDream(dream) ? m.sure(w.night, dream + 1) : null, k -> x.odds(dream, k)); break;
            case 13: is("up()", m.up(w.night) ? 1 : 0, x.up()); break;
            case 14: {
                int best = 0;
                for (int p = 1; p <= m.dreams; p++) {
                    best = m.together(w.night, p).compare(m.together(w.night, best)) > 0 ? p : best;
                }
                is("likely()", best - 1, x.likely());
                break;
            }
            case 15: {
                int fits = 0;
                for (int p = 0; p <= m.dreams; p++) {
                    fits |= m.together(w.night, p).compare(Model.ZERO) > 0 ? 1 << p : 0;
                }
                is("fits()", fits, x.fits());
                break;
            }
            case 16: {
                boolean such = i >= 0 && i <= w.night.size();
                fraction("after(" + i + ")", such ? m.sure(w.night.subList(0, i), 0) : null, k -> x.after(i, k));
                break;
            }
            case 17: is("next()", w.night.size() == 12 ? -1 : m.next(), x.next()); break;
            case 18: fraction("tells(" + test + ")", isTest(test) ? m.tells(test) : null, k -> x.tells(test, k)); break;
            default: {
                int many = any(60);
                int n = any(12);
                int from = random.nextInt();
                is("wrongs(" + many + ", " + n + ", " + from + ")", w.wrongs(many, n, from), x.wrongs(many, n, from));
            }
        }
    }

    private void lookAtRest(int call) {
        Model m = w.book;
        switch (call) {
            case 20: {
                int n = any(8);
                Model.Part due = n < 0 || n > 8 ? null : Model.ONE;
                for (int i = 0; i < n && n <= 8; i++) {
                    due = due.times(m.all() - m.weight[0], m.all());
                }
                fraction("deep(" + n + ")", due, k -> x.deep(n, k));
                break;
            }
            case 21: {
                int best = -1;
                for (int a = 0; a < m.tests; a++) {
                    for (int b = a + 1; b < m.tests; b++) {
                        Model.Part error = m.error(1 << a | 1 << b);
                        boolean less = best < 0 || error.compare(m.error(1 << best / 10 | 1 << best % 10)) < 0;
                        best = less ? 10 * a + b : best;
                    }
                }
                is("pair()", best, x.pair());
                break;
            }
            case 22:
            case 23: {
                int i = any(w.text.length());
                is("byteAt(" + i + ")", i >= 0 && i < w.text.length() ? w.text.charAt(i) : -1, x.byteAt(i));
                break;
            }
            case 24: fraction("worth", w.tree == null ? null : w.tree.worth(m, m.atFirst()), x::worth); break;
            case 25: is("leads()", w.tree == null ? -1 : w.tree.leads(w.night), x.leads()); break;
            case 26: {
                int what = any(2);
                is("judged(" + what + ")", what < 0 || what > 2 ? -1 : w.judged[what], x.judged(what));
                break;
            }
            case 27:
            case 28: {
                List<Integer> all = w.said == null ? null : w.said.tests(m, w.night);
                int k = random.nextInt(12) - 2;
                int due = all == null || k < -1 || k >= all.size() ? -1 : k == -1 ? all.size() : all.get(k);
                is("said(" + k + ")", due, x.said(k));
                break;
            }
            default: {
                int what = any(9);
                int[] due = {m.tests, m.dreams, m.weight[0], m.tired, m.sure, m.late, m.wrong, m.learn ? 1 : 0,
                    w.night.size(), w.tape.length()};
                is("count(" + what + ")", what < 0 || what > 9 ? -1 : due[what], x.count(what));
            }
        }
    }
}
