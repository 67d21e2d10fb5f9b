import java.math.BigInteger;
import java.util.ArrayList;
import java.util.List;
import java.util.Random;

/** The document's rules once more, by exact fractions and by trying all ways; slow, and told from scratch. */
final class Model {
    final int tests;
    final int dreams;
    final int[] room;
    final int[] dreaming;
    final int[] weight;
    final int[] keeps;
    int tired;
    int sure = 8;
    int late = 1;
    int wrong = 1;
    boolean learn;
    final List<Integer> night = new ArrayList<>();

    /** An exact fraction in least terms. */
    record Part(BigInteger above, BigInteger below) {
        static Part of(long above, long below) {
            return of(BigInteger.valueOf(above), BigInteger.valueOf(below));
        }

        static Part of(BigInteger above, BigInteger below) {
            BigInteger divisor = above.gcd(below);
            return new Part(above.divide(divisor), below.divide(divisor));
        }

        Part plus(Part o) {
            return of(above.multiply(o.below).add(o.above.multiply(below)), below.multiply(o.below));
        }

        Part minus(Part o) {
            return plus(o.times(-1, 1));
        }

        Part times(Part o) {
            return of(above.multiply(o.above), below.multiply(o.below));
        }

        Part times(long a, long b) {
            return times(of(a, b));
        }

        Part by(Part o) {
            return of(above.multiply(o.below), below.multiply(o.above));
        }

        int compare(Part o) {
            return above.multiply(o.below).compareTo(o.above.multiply(below));
        }

        Part least(Part o) {
            return compare(o) <= 0 ? this : o;
        }

        String told() {
            return above + "/" + below;
        }
    }

    static final Part ZERO = Part.of(0, 1);
    static final Part ONE = Part.of(1, 1);

    /** An empty BOOK. */
    Model() {
        tests = 0;
        dreams = 0;
        room = new int[0];
        dreaming = new int[0];
        weight = new int[] {1};
        keeps = new int[] {0};
    }

    Model(Random random, int mostTests) {
        tests = random.nextInt(mostTests + 1);
        dreams = random.nextInt(7);
        room = new int[tests];
        dreaming = new int[tests];
        boolean sharp = random.nextBoolean();
        for (int t = 0; t < tests; t++) {
            room[t] = sharp && random.nextInt(3) > 0 ? 9 : random.nextInt(10);
            dreaming[t] = sharp && random.nextInt(3) > 0 ? 0 : random.nextInt(10);
        }
        weight = new int[dreams + 1];
        keeps = new int[dreams + 1];
        for (int p = 0; p <= dreams; p++) {
            weight[p] = 1 + random.nextInt(random.nextBoolean() ? 20 : 4);
            keeps[p] = p == 0 ? 0 : random.nextInt(1 << tests) & (random.nextBoolean() ? -1 : random.nextInt(256));
        }
        tired = random.nextInt(3) == 0 ? random.nextInt(13) : 0;
        sure = 5 + random.nextInt(5);
        late = random.nextInt(random.nextBoolean() ? 100 : 4);
        wrong = random.nextInt(random.nextBoolean() ? 100 : 4);
        learn = random.nextInt(3) == 0;
    }

    static String testName(int t) {
        return "t" + "abcdefgh".charAt(t);
    }

    static String dreamName(int d) {
        return "kept".substring(0, 1) + "uvwxyz".charAt(d);
    }

    String text() {
        StringBuilder text = new StringBuilder();
        for (int t = 0; t < tests; t++) {
            text.append("test ").append(testName(t)).append(' ').append(room[t]).append(' ').append(dreaming[t]).append(";");
        }
        text.append("room ").append(weight[0]).append(";\n");
        for (int p = 1; p <= dreams; p++) {
            text.append("dream ").append(dreamName(p - 1)).append(' ').append(weight[p]);
            for (int t = tests - 1; t >= 0; t--) {
                if ((keeps[p] >> t & 1) == 1) {
                    text.append(' ').append(testName(t));
                }
            }
            text.append(";");
        }
        text.append("tired ").append(tired).append(";sure ").append(sure).append(";late ").append(late);
        text.append(";wrong ").append(wrong).append(";").append(learn ? "learn;" : "");
        return text.toString();
    }

    int lines() {
        return tests + dreams + 5 + (learn ? 1 : 0);
    }

    /** Of 9: behind these answers a TEST STAYS in this place. */
    int stays(List<Integer> answers, int test, int place) {
        if (tired > 0 && answers.size() + 1 >= tired) {
            return 9;
        }
        boolean asked = answers.contains(2 * test) || answers.contains(2 * test + 1);
        return place == 0 || (keeps[place] >> test & 1) == 1 || learn && asked ? room[test] : dreaming[test];
    }

    Part plain(int test, int stays, int place) {
        int odds = place == 0 || (keeps[place] >> test & 1) == 1 ? room[test] : dreaming[test];
        return Part.of(stays == 1 ? odds : 9 - odds, 9);
    }

    int all() {
        int sum = 0;
        for (int w : weight) {
            sum += w;
        }
        return sum;
    }

    /** That one is in a place and all these answers come. */
    Part together(List<Integer> answers, int place) {
        Part part = Part.of(weight[place], all());
        for (int i = 0; i < answers.size(); i++) {
            int odds = stays(answers.subList(0, i), answers.get(i) / 2, place);
            part = part.times(answers.get(i) % 2 == 1 ? odds : 9 - odds, 9);
        }
        return part;
    }

    Part ofDreams(List<Integer> answers) {
        Part sum = ZERO;
        for (int p = 1; p <= dreams; p++) {
            sum = sum.plus(together(answers, p));
        }
        return sum;
    }

    Part anywhere(List<Integer> answers) {
        return together(answers, 0).plus(ofDreams(answers));
    }

    Part sure(List<Integer> answers, int place) {
        return together(answers, place).by(anywhere(answers));
    }

    boolean up(List<Integer> answers) {
        return ofDreams(answers).times(wrong, 1).compare(together(answers, 0).times(late, 1)) <= 0;
    }

    List<Integer> with(List<Integer> answers, int test, int stays) {
        List<Integer> more = new ArrayList<>(answers);
        more.add(2 * test + stays);
        return more;
    }

    boolean canBe(int test, int stays) {
        return anywhere(with(night, test, stays)).compare(ZERO) > 0;
    }

    int good() {
        int set = 0;
        for (int t = 0; t < tests; t++) {
            set |= room[t] == 9 && dreaming[t] == 0 ? 1 << t : 0;
        }
        return set;
    }

    int enough() {
        int best = -1;
        for (int set = 255; set >= 0; set--) {
            boolean does = (set & ~good()) == 0;
            for (int p = 1; p <= dreams; p++) {
                does &= (set & ~keeps[p]) != 0;
            }
            if (does && (best < 0 || Integer.bitCount(set) <= Integer.bitCount(best))) {
                best = set;
            }
        }
        return best;
    }

    /** A way through a set of TESTS one by one: what one takes wrongly in the end. */
    Part error(int set) {
        Part[] places = new Part[dreams + 1];
        for (int p = 0; p <= dreams; p++) {
            places[p] = Part.of(weight[p], all());
        }
        return error(set, places);
    }

    private Part error(int set, Part[] places) {
        if (set == 0) {
            return places[0].least(sumOfDreams(places));
        }
        int test = 31 - Integer.numberOfLeadingZeros(set);
        int rest = set & ~(1 << test);
        return error(rest, behind(places, test, 1)).plus(error(rest, behind(places, test, 0)));
    }

    Part[] behind(Part[] places, int test, int stays) {
        Part[] next = new Part[places.length];
        for (int p = 0; p < places.length; p++) {
            next[p] = places[p].times(plain(test, stays, p));
        }
        return next;
    }

    private static Part sumOfDreams(Part[] places) {
        Part sum = ZERO;
        for (int p = 1; p < places.length; p++) {
            sum = sum.plus(places[p]);
        }
        return sum;
    }

    Part[] atFirst() {
        Part[] places = new Part[dreams + 1];
        for (int p = 0; p <= dreams; p++) {
            places[p] = Part.of(weight[p], all());
        }
        return places;
    }

    Part costOfUp(Part[] places) {
        return sumOfDreams(places).times(wrong, 1);
    }

    Part costOfBed(Part[] places) {
        return places[0].times(late, 1);
    }

    Part cost(Part[] places, int n, int used) {
        Part best = costOfUp(places).least(costOfBed(places));
        for (int t = 0; t < tests && n > 0; t++) {
            if ((used >> t & 1) == 0) {
                best = best.least(costOfAsking(places, n, used, t));
            }
        }
        return best;
    }

    private Part costOfAsking(Part[] places, int n, int used, int t) {
        return cost(behind(places, t, 1), n - 1, used | 1 << t).plus(cost(behind(places, t, 0), n - 1, used | 1 << t));
    }

    int first(Part[] places, int n, int used) {
        Part least = cost(places, n, used);
        if (costOfUp(places).least(costOfBed(places)).compare(least) == 0) {
            return -1;
        }
        for (int t = 0; t < tests; t++) {
            if ((used >> t & 1) == 0 && costOfAsking(places, n, used, t).compare(least) == 0) {
                return t;
            }
        }
        return -1;
    }

    String write(Part[] places, int n, int used) {
        int t = first(places, n, used);
        if (t < 0) {
            return costOfUp(places).compare(costOfBed(places)) <= 0 ? "up" : "bed";
        }
        return testName(t) + " ( " + write(behind(places, t, 1), n - 1, used | 1 << t) + " ; "
            + write(behind(places, t, 0), n - 1, used | 1 << t) + " )";
    }

    /** Over all sets of two TESTS and more, as if these alone were there. */
    int lotSet() {
        int best = 0;
        for (int set = 0; set < 1 << tests; set++) {
            boolean moving = Integer.bitCount(set) > 1;
            for (int t = 0; t < tests; t++) {
                moving &= (set >> t & 1) == 0 || dreaming[t] < 9;
            }
            if (!moving) {
                continue;
            }
            int than = best == 0 ? 1 : lot(set).compare(lot(best));
            if (than > 0 || than == 0 && Integer.bitCount(set) > Integer.bitCount(best)) {
                best = set;
            }
        }
        return best;
    }

    Part lot(int set) {
        Part shares = ZERO;
        for (int t = 0; t < tests; t++) {
            if ((set >> t & 1) == 1) {
                shares = shares.plus(Part.of(9, 9 - dreaming[t]));
            }
        }
        return Part.of(Integer.bitCount(set) - 1, 1).by(shares);
    }

    Part share(int set, int test) {
        if ((set >> test & 1) == 0) {
            return ZERO;
        }
        return lot(set).times(9, 9 - dreaming[test]).times(1, Integer.bitCount(set) - 1);
    }

    int next() {
        int best = -1;
        Part most = ZERO;
        for (int t = tests - 1; t >= 0; t--) {
            Part known = ZERO;
            for (int stays = 0; stays < 2; stays++) {
                List<Integer> more = with(night, t, stays);
                Part room = together(more, 0);
                Part dreaming = ofDreams(more);
                known = known.plus(room.compare(dreaming) > 0 ? room : dreaming);
            }
            if (known.compare(most) >= 0) {
                most = known;
                best = t;
            }
        }
        return best;
    }

    Part fails(int set) {
        Part stands = ONE;
        for (int t = 0; t < tests; t++) {
            if ((set >> t & 1) == 1) {
                stands = stands.times(room[t], 9);
            }
        }
        return ONE.minus(stands);
    }

    Part tells(int test) {
        return anywhere(with(night, test, 1)).by(anywhere(night));
    }

    /** The answers of a NIGHT DRAWN come into this NIGHT; answers where one is. */
    int draw(List<Integer> answers, int n, int seed) {
        answers.clear();
        int[] x = {seed};
        int where = 0;
        for (int rest = draw(x, all()); rest >= weight[where]; where++) {
            rest -= weight[where];
        }
        for (int i = 0; i < n; i++) {
            int test = draw(x, tests);
            int stays = draw(x, 9) < stays(answers, test, where) ? 1 : 0;
            answers.add(2 * test + stays);
        }
        return where;
    }

    private static int draw(int[] x, int n) {
        x[0] = x[0] * 1103515245 + 12345;
        return (x[0] >>> 8) % n;
    }
}
