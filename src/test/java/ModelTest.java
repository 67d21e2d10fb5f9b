import java.util.ArrayList;
import java.util.List;
import java.util.Random;

/** Random BOOKS and NIGHTS against the model: promises 4, 8 to 24, 26 to 42. */
public final class ModelTest {
    /** A call that is made again on a new object, for one object is used for few calls. */
    private interface Act {
        long on(DreamTests x);
    }

    private ModelTest() {
    }

    private static DreamTests behind(Model m, List<Act> acts) {
        DreamTests x = Due.withBook(m.text());
        for (Act act : acts) {
            act.on(x);
        }
        return x;
    }

    public static void main(String[] args) {
        for (int seed = 0; seed < 250; seed++) {
            Random random = new Random(seed);
            Model model = new Model(random, 8);
            DreamTests x = new DreamTests();
            Due.is(seed + " book()", model.lines(), Due.put(x, model.text()).book());
            sets(seed, x, model, random);
            List<Act> acts = new ArrayList<>();
            night(seed, model, random, acts);
            trees(seed, behind(model, acts), model, random);
            nights(seed, behind(model, acts), model, random);
            drawn(seed, behind(model, acts), model, random);
            sentences(seed, behind(model, acts), model, random);
        }
        for (int seed = 0; seed < 60; seed++) {
            Random random = new Random(-1 - seed);
            Model model = new Model(random, seed % 3 == 0 ? 6 : 4);
            costs(seed, model);
        }
        Due.done("ModelTest");
    }

    private static void fraction(String what, Model.Part want, java.util.function.IntToLongFunction call) {
        Due.same(what, want.told(), Due.fraction(call));
    }

    private static void sets(int seed, DreamTests x, Model m, Random random) {
        Due.is(seed + " enough()", m.enough(), x.enough());
        int forger = -1;
        for (int p = m.dreams; p >= 1; p--) {
            forger = (m.good() & ~m.keeps[p]) == 0 ? p - 1 : forger;
        }
        Due.is(seed + " forger()", forger, x.forger());
        int best = -1;
        for (int a = m.tests - 1; a >= 0; a--) {
            for (int b = m.tests - 1; b > a; b--) {
                Model.Part error = m.error(1 << a | 1 << b);
                if (best < 0 || error.compare(m.error(1 << best / 10 | 1 << best % 10)) <= 0) {
                    best = 10 * a + b;
                }
            }
        }
        Due.is(seed + " pair()", best, x.pair());
        for (int i = 0; i < 6; i++) {
            int set = random.nextInt(1 << m.tests);
            if (Integer.bitCount(set) <= 5) {
                fraction(seed + " error(" + set + ")", m.error(set), w -> x.error(set, w));
            } else {
                Due.isThrown(seed + " error(" + set + ")", () -> x.error(set, 0));
            }
            fraction(seed + " fails(" + set + ")", m.fails(set), w -> x.fails(set, w));
        }
        int set = m.lotSet();
        for (int t = 0; t < m.tests; t++) {
            int test = t;
            String share = set == 0 ? "none" : m.share(set, t).told();
            Due.same(seed + " share(" + t + ")", share, Due.fraction(w -> x.share(test, w)));
        }
        Due.same(seed + " lot", set == 0 ? "none" : m.lot(set).told(), Due.fraction(x::lot));
        for (int n = 0; n <= 8; n++) {
            int by = n;
            Model.Part part = Model.ONE;
            for (int i = 0; i < n; i++) {
                part = part.times(m.all() - m.weight[0], m.all());
            }
            fraction(seed + " deep(" + n + ")", part, w -> x.deep(by, w));
        }
        for (int p = 1; p <= m.dreams; p++) {
            for (int q = 1; q <= m.dreams; q++) {
                Due.is(seed + " apart", Integer.bitCount(m.keeps[p] ^ m.keeps[q]), x.apart(p - 1, q - 1));
            }
        }
    }

    private static void night(int seed, Model m, Random random, List<Act> acts) {
        List<List<Integer>> past = new ArrayList<>();
        for (int i = 0; i < 40 && m.tests > 0; i++) {
            DreamTests x = behind(m, acts);
            Act act = act(seed, m, random, past, x);
            Due.is(seed + " answers of act " + i, m.night.size(), x.count(8));
            acts.add(act);
            if (past.size() > 8) {
                past.remove(0);
            }
            now(seed, x, m);
        }
        DreamTests x = behind(m, acts);
        for (int i = 0; i <= m.night.size(); i++) {
            int by = i;
            fraction(seed + " after(" + i + ")", m.sure(m.night.subList(0, i), 0), w -> x.after(by, w));
        }
    }

    /** One act, on the model and on the object: what it answers. */
    private static Act act(int seed, Model m, Random random, List<List<Integer>> past, DreamTests x) {
        int kind = random.nextInt(12);
        List<Integer> before = new ArrayList<>(m.night);
        if (kind == 0) {
            past.add(before);
            Due.is(seed + " sleep()", before.size(), x.sleep());
            m.night.clear();
            return y -> y.sleep();
        }
        if (kind == 1) {
            boolean can = !past.isEmpty();
            Due.is(seed + " undo()", can ? past.size() - 1 : -1, x.undo());
            if (can) {
                m.night.clear();
                m.night.addAll(past.remove(past.size() - 1));
            }
            return y -> y.undo();
        }
        if (kind == 2) {
            past.add(before);
            int n = random.nextInt(13);
            int from = random.nextInt();
            Due.is(seed + " drawn()", m.draw(m.night, n, from), x.drawn(n, from));
            return y -> y.drawn(n, from);
        }
        int test = random.nextInt(m.tests);
        int stays = random.nextInt(2);
        boolean can = m.night.size() < 12 && m.canBe(test, stays);
        Due.is(seed + " ask()", can ? m.night.size() + 1 : -1, x.ask(test, stays));
        if (can) {
            past.add(before);
            m.night.add(2 * test + stays);
        }
        return y -> y.ask(test, stays);
    }

    private static void now(int seed, DreamTests x, Model m) {
        Due.is(seed + " count(8)", m.night.size(), x.count(8));
        for (int i = 0; i <= 12; i++) {
            Due.is(seed + " answer(" + i + ")", i < m.night.size() ? m.night.get(i) : -1, x.answer(i));
        }
        fraction(seed + " sure", m.sure(m.night, 0), x::sure);
        Due.is(seed + " up()", m.up(m.night), x.up() == 1);
        int fits = 0;
        int likely = 0;
        for (int p = 0; p <= m.dreams; p++) {
            int place = p;
            Model.Part part = m.sure(m.night, p);
            fits |= part.compare(Model.ZERO) > 0 ? 1 << p : 0;
            likely = part.compare(m.sure(m.night, likely)) > 0 ? p : likely;
            if (p > 0) {
                fraction(seed + " odds", part, w -> x.odds(place - 1, w));
            }
            for (int t = 0; t < m.tests; t++) {
                Due.is(seed + " stays(" + t + ", " + (p - 1) + ")", m.stays(m.night, t, p), x.stays(t, p - 1));
            }
        }
        Due.is(seed + " fits()", fits, x.fits());
        Due.is(seed + " likely()", likely - 1, x.likely());
        Due.is(seed + " next()", m.night.size() == 12 ? -1 : m.next(), x.next());
        for (int t = 0; t < m.tests; t++) {
            int test = t;
            int times = 0;
            for (int answer : m.night) {
                times += answer / 2 == t ? 1 : 0;
            }
            Due.is(seed + " test(" + t + ", 2)", times, x.test(t, 2));
            fraction(seed + " tells(" + t + ")", m.tells(t), w -> x.tells(test, w));
        }
    }

    private static void costs(int seed, Model m) {
        Model.Part[] places = m.atFirst();
        int most = m.tests > 4 ? 3 : 4;
        for (int n = 0; n <= most; n++) {
            int by = n;
            DreamTests x = Due.withBook(m.text());
            fraction(seed + " cost(" + n + ")", m.cost(places, n, 0), w -> x.cost(by, w));
            Due.is(seed + " first(" + n + ")", m.first(places, n, 0), x.first(n));
            String text = m.write(places, n, 0);
            Due.is(seed + " write(" + n + ")", text.length(), x.write(n));
            Due.same(seed + " the text", text, Due.madeText(x));
        }
    }

    /** A TREE of its own: what it costs, how many TESTS it has and where it leads. */
    private static void trees(int seed, DreamTests x, Model m, Random random) {
        for (int i = 0; i < 4; i++) {
            StringBuilder text = new StringBuilder();
            int[] tests = {0};
            int[] lead = {0};
            Model.Part worth = grow(m, random, text, tests, m.atFirst(), new int[] {0, 0}, m.night, lead);
            Due.is(seed + " tree() of " + text, tests[0], Due.put(x, text.toString()).tree());
            fraction(seed + " worth of " + text, worth, x::worth);
            Due.is(seed + " leads() of " + text, lead[0], x.leads());
        }
    }

    /** Way: the TESTS on it as bits, and its depth; rest: the answers to go on by, null off their way. */
    private static Model.Part grow(Model m, Random random, StringBuilder text, int[] tests, Model.Part[] places,
            int[] way, List<Integer> rest, int[] lead) {
        int test = m.tests == 0 ? 0 : random.nextInt(m.tests);
        if (rest != null && !rest.isEmpty() && random.nextInt(4) > 0) {
            test = rest.get(0) / 2;
        }
        boolean ends = m.tests == 0 || way[1] == 4 || (way[0] >> test & 1) == 1 || random.nextInt(5) == 0;
        if (ends) {
            boolean up = random.nextBoolean();
            text.append(up ? "up" : "bed").append(random.nextBoolean() ? "\n" : "");
            if (rest != null) {
                lead[0] = !rest.isEmpty() ? -2 : up ? 1 : 0;
            }
            return up ? m.costOfUp(places) : m.costOfBed(places);
        }
        tests[0]++;
        int[] longer = {way[0] | 1 << test, way[1] + 1};
        if (rest != null && rest.isEmpty()) {
            lead[0] = 10 + test;
        } else if (rest != null && rest.get(0) / 2 != test) {
            lead[0] = -2;
        }
        boolean on = rest != null && !rest.isEmpty() && rest.get(0) / 2 == test;
        List<Integer> more = on ? rest.subList(1, rest.size()) : null;
        text.append(Model.testName(test)).append(" (");
        Model.Part cost = grow(m, random, text, tests, m.behind(places, test, 1), longer,
            on && rest.get(0) % 2 == 1 ? more : null, lead);
        text.append(";");
        cost = cost.plus(grow(m, random, text, tests, m.behind(places, test, 0), longer,
            on && rest.get(0) % 2 == 0 ? more : null, lead));
        text.append(")");
        return cost;
    }

    /** NIGHTS that are mostly as one does; behind the LINE that is WRONG come some that would be WRONG too. */
    private static void nights(int seed, DreamTests x, Model m, Random random) {
        for (int i = 0; i < 12; i++) {
            StringBuilder text = new StringBuilder();
            List<Integer> answers = new ArrayList<>();
            int where = 0;
            int line = -1;
            int why = 0;
            int began = 0;
            int count = 0;
            for (int k = 0; k < 40 && line < 0 && text.length() < 360; k++) {
                boolean rightly = random.nextInt(30) > 0;
                int act = k == 0 ? 0 : random.nextInt(8);
                if (act == 0) {
                    where = random.nextInt(m.dreams + 1);
                    answers.clear();
                    text.append("in ").append(where == 0 ? "room" : Model.dreamName(where - 1));
                    began++;
                } else if (act < 3 || m.tests == 0 || answers.size() == 12) {
                    text.append(m.up(answers) == rightly ? "up" : "bed");
                    why = rightly ? 0 : 3;
                } else {
                    int test = random.nextInt(m.tests);
                    int stays = random.nextInt(9) < m.stays(answers, test, where) == rightly ? 1 : 0;
                    text.append(Model.testName(test)).append(stays == 1 ? " stays" : " moves");
                    answers.add(2 * test + stays);
                    why = judge(m, answers, where);
                    count += why == 0 ? 1 : 0;
                }
                text.append(";");
                line = why > 0 ? k : -1;
            }
            if (line >= 0 && line < 36) {
                text.append("in room; up; bed;");
            }
            String told = seed + " NIGHTS " + text;
            Due.is(told, line, Due.put(x, text.toString()).nights());
            Due.is(told + " why", why, x.judged(0));
            Due.is(told + " began", began, x.judged(1));
            Due.is(told + " answers", count, x.judged(2));
        }
    }

    private static int judge(Model m, List<Integer> answers, int where) {
        if (m.together(answers, where).compare(Model.ZERO) == 0) {
            return 1;
        }
        Model.Part against = where > 0 ? m.sure(answers, 0) : Model.ONE.minus(m.sure(answers, 0));
        return against.compare(Model.Part.of(m.sure, 9)) >= 0 ? 2 : 0;
    }

    private static void drawn(int seed, DreamTests x, Model m, Random random) {
        for (int i = 0; i < 3; i++) {
            int n = m.tests == 0 ? 0 : random.nextInt(13);
            int many = 1 + random.nextInt(60);
            int from = random.nextInt();
            int wrong = 0;
            List<Integer> answers = new ArrayList<>();
            for (int k = 0; k < many; k++) {
                boolean inRoom = m.draw(answers, n, from + k) == 0;
                wrong += inRoom == m.up(answers) ? 0 : 1;
            }
            Due.is(seed + " wrongs()", wrong, x.wrongs(many, n, from));
        }
    }

    /** What stands of a SENTENCE told at random: its text, the TESTS of which it may be said, its ONES. */
    private record Said(String text, int set, int ones) {
    }

    private static void sentences(int seed, DreamTests x, Model m, Random random) {
        for (int i = 0; i < 10; i++) {
            Said said = cond(m, random, 1);
            if (said.ones > 20 || said.text.length() > 200) {
                continue;
            }
            int set = said.set & (1 << m.tests) - 1;
            Due.is(seed + " sentence() of " + said.text, said.ones, Due.put(x, said.text).sentence());
            Due.is(seed + " said(-1) of " + said.text, Integer.bitCount(set), x.said(-1));
            int k = 0;
            for (int t = 0; t < m.tests; t++) {
                if ((set >> t & 1) == 1) {
                    Due.is(seed + " said(" + k + ") of " + said.text, t, x.said(k));
                    k++;
                }
            }
            Due.is(seed + " said(" + k + ") of " + said.text, -1, x.said(k));
        }
    }

    private static Said cond(Model m, Random random, int within) {
        Said said = all(m, random, within);
        for (int i = random.nextInt(3); i > 0; i--) {
            Said next = all(m, random, within);
            said = new Said(said.text + " or " + next.text, said.set | next.set, said.ones + next.ones);
        }
        return said;
    }

    private static Said all(Model m, Random random, int within) {
        Said said = one(m, random, within);
        for (int i = random.nextInt(3) / 2; i > 0; i--) {
            Said next = one(m, random, within);
            said = new Said(said.text + " and " + next.text, said.set & next.set, said.ones + next.ones);
        }
        return said;
    }

    private static Said one(Model m, Random random, int within) {
        int kind = random.nextInt(within < 8 ? 10 : 6);
        if (kind >= 8) {
            Said in = one(m, random, within + 1);
            return new Said("not " + in.text, ~in.set, in.ones + 1);
        }
        if (kind >= 6) {
            Said in = cond(m, random, within + 1);
            return new Said("(" + in.text + ")", in.set, in.ones + 1);
        }
        if (kind == 0) {
            return new Said("good", m.good(), 1);
        }
        if (kind == 1) {
            int set = 0;
            for (int answer : m.night) {
                set |= 1 << answer / 2;
            }
            return new Said("asked", set, 1);
        }
        if (kind == 2 && m.dreams > 0) {
            int dream = random.nextInt(m.dreams);
            return new Said("kept " + Model.dreamName(dream), m.keeps[dream + 1], 1);
        }
        return order(m, random);
    }

    private static Said order(Model m, Random random) {
        String word = new String[] {"rooms", "dreams", "place"}[random.nextInt(3)];
        char sign = "<=>".charAt(random.nextInt(3));
        int number = random.nextInt(11);
        int set = 0;
        for (int t = 0; t < m.tests; t++) {
            int value = word.equals("rooms") ? m.room[t] : word.equals("dreams") ? m.dreaming[t] : t;
            int than = Integer.compare(value, number);
            if (than == sign - '=') {
                set |= 1 << t;
            }
        }
        return new Said(word + sign + number, set, 1);
    }
}
