import java.util.ArrayDeque;
import java.util.ArrayList;
import java.util.Deque;
import java.util.List;
import java.util.Set;
import java.util.regex.Matcher;
import java.util.regex.Pattern;

/** The reading of texts once more: all TOKENS first, then by a stack of what is due next. */
final class Texts {
    static final int BOOK = 0;
    static final int NIGHTS = 1;
    static final int TREE = 2;
    static final int SENTENCE = 3;
    private static final int[] MOST_BYTES = {900, 400, 400, 200};
    private static final String[] STARTS = {"LINES", "NIGHTS", "TREE", "COND"};
    private static final Set<String> KEPT_WORDS = Set.of("test", "dream", "room", "tired", "sure", "late", "wrong",
        "learn", "in", "stays", "moves", "up", "bed", "or", "and", "not", "good", "kept", "asked", "rooms", "dreams",
        "place");

    /** Sorts: w a WORD, n a NUMBER, s a sign, ! none, $ the end. */
    private record Token(String text, int place, char sort) {
    }

    private record Due(String what, int a, int b) {
    }

    final List<String> tests = new ArrayList<>();
    final List<String> dreams = new ArrayList<>();
    /** 0 without a FAULT. */
    int kind;
    int place;
    /** LINES, TESTS of a TREE or ONES. */
    int told;
    private int asked;
    private int kept;
    private final Set<String> once = new java.util.HashSet<>();
    private final List<Token> tokens = new ArrayList<>();
    private final Deque<Due> due = new ArrayDeque<>();
    private int next;

    Texts(int sort, String text, List<String> tests, List<String> dreams) {
        this.tests.addAll(tests);
        this.dreams.addAll(dreams);
        takeApart(text, MOST_BYTES[sort]);
        due.push(new Due("$", 0, 0));
        due.push(new Due(STARTS[sort], sort == SENTENCE ? 1 : 0, 0));
        while (!due.isEmpty() && kind == 0) {
            Token token = tokens.get(next);
            int fault = fault(due.pop(), token);
            if (fault > 0) {
                kind = fault;
                place = token.place;
            }
        }
    }

    private void takeApart(String text, int most) {
        Matcher m = Pattern.compile("[a-z0-9]+|[^ \n]", Pattern.DOTALL).matcher(text);
        while (m.find()) {
            String t = m.group();
            boolean sign = t.matches("[;<=>()]");
            char sort = t.matches("[a-z]{1,7}") ? 'w' : t.matches("[0-9]{1,2}") ? 'n' : sign ? 's' : '!';
            if (text.length() <= most || m.start() < most) {
                tokens.add(new Token(t, m.start(), sort));
            }
        }
        boolean more = text.length() > most;
        tokens.add(new Token("", more ? most : text.length(), more ? '!' : '$'));
    }

    private void push(String what, int a, int b) {
        due.push(new Due(what, a, b));
    }

    /** What comes, in its order. */
    private int go(Due... all) {
        next++;
        for (int i = all.length - 1; i >= 0; i--) {
            due.push(all[i]);
        }
        return 0;
    }

    private static Due of(String what) {
        return new Due(what, 0, 0);
    }

    private static Due of(String what, int a, int b) {
        return new Due(what, a, b);
    }

    private static boolean isName(Token t) {
        return t.sort == 'w' && !KEPT_WORDS.contains(t.text);
    }

    private static int one(int fault, boolean ifSo) {
        return ifSo ? fault : 0;
    }

    private int fault(Due d, Token t) {
        switch (d.what) {
            case "$":
                return one(1, t.sort != '$');
            case "LINES":
            case "NIGHTS":
                if (t.sort == '$') {
                    return 0;
                }
                push(d.what, 0, 0);
                push(";", 0, 0);
                push(d.what.equals("LINES") ? "LINE" : "NIGHT", 0, 0);
                return 0;
            case "LINE":
                return line(t);
            case "NIGHT":
                return night(t);
            case "NEW":
                return newName(d.a == 0 ? tests : dreams, t);
            case "NUMBER":
                return t.sort != 'n' ? 1 : Integer.parseInt(t.text) < d.a || Integer.parseInt(t.text) > d.b ? 2 : go();
            case "KEEPS":
                return keeps(t);
            case "PLACE":
                return t.text.equals("room") ? go() : name(dreams, t) > 0 ? name(dreams, t) : go();
            case "DREAM":
                return name(dreams, t) > 0 ? name(dreams, t) : go();
            case "ANSWER":
                return t.text.equals("stays") || t.text.equals("moves") ? go() : 1;
            case "TREE":
                return tree(d, t);
            case "COND":
            case "ALL":
            case "ORS":
            case "ANDS":
                return chain(d, t);
            case "ONE":
                return oneOf(d, t);
            case "SIGN":
                return t.text.matches("[<=>]") ? go() : 1;
            default:
                return t.text.equals(d.what) ? go() : 1;
        }
    }

    private static int name(List<String> told, Token t) {
        return !isName(t) ? 1 : told.contains(t.text) ? 0 : 3;
    }

    private int line(Token t) {
        String[] words = {"room", "tired", "sure", "late", "wrong", "learn"};
        int[] least = {1, 0, 5, 0, 0};
        int[] greatest = {20, 12, 9, 99, 99};
        told++;
        if (t.text.equals("test")) {
            return tests.size() == 8 ? 4 : go(of("NEW", 0, 0), of("NUMBER", 0, 9), of("NUMBER", 0, 9));
        }
        if (t.text.equals("dream")) {
            kept = 0;
            return dreams.size() == 6 ? 4 : go(of("NEW", 1, 0), of("NUMBER", 1, 20), of("KEEPS"));
        }
        for (int i = 0; i < words.length; i++) {
            if (t.text.equals(words[i])) {
                return !once.add(t.text) ? 3 : i == 5 ? go() : go(of("NUMBER", least[i], greatest[i]));
            }
        }
        return 1;
    }

    private int newName(List<String> sort, Token t) {
        if (!isName(t)) {
            return 1;
        }
        if (tests.contains(t.text) || dreams.contains(t.text)) {
            return 3;
        }
        sort.add(t.text);
        return go();
    }

    private int keeps(Token t) {
        if (t.sort != 'w') {
            return 0;
        }
        int fault = name(tests, t);
        int bit = 1 << Math.max(tests.indexOf(t.text), 0);
        if (fault > 0 || (kept & bit) != 0) {
            return fault > 0 ? fault : 3;
        }
        kept |= bit;
        return go(of("KEEPS"));
    }

    private int night(Token t) {
        boolean in = t.text.equals("in");
        boolean act = t.text.equals("up") || t.text.equals("bed");
        int fault = in ? 0 : told == 0 ? 1 : act ? 0 : name(tests, t);
        if (fault > 0) {
            return fault;
        }
        asked = in ? 0 : act ? asked : asked + 1;
        told++;
        if (told > 40 || asked > 12) {
            return 4;
        }
        return in ? go(of("PLACE")) : act ? go() : go(of("ANSWER"));
    }

    private int tree(Due d, Token t) {
        if (t.text.equals("up") || t.text.equals("bed")) {
            return go();
        }
        int fault = name(tests, t);
        int bit = 1 << Math.max(tests.indexOf(t.text), 0);
        if (fault > 0 || (d.a & bit) != 0) {
            return fault > 0 ? fault : 3;
        }
        if (d.b == 4) {
            return 4;
        }
        told++;
        Due below = of("TREE", d.a | bit, d.b + 1);
        return go(of("("), below, of(";"), below, of(")"));
    }

    /** ALL of ONES by 'and', COND of those by 'or'. */
    private int chain(Due d, Token t) {
        if (d.what.equals("COND") || d.what.equals("ALL")) {
            boolean cond = d.what.equals("COND");
            push(cond ? "ORS" : "ANDS", d.a, 0);
            push(cond ? "ALL" : "ONE", d.a, 0);
            return 0;
        }
        boolean ors = d.what.equals("ORS");
        return t.text.equals(ors ? "or" : "and") ? go(of(ors ? "ALL" : "ONE", d.a, 0), d) : 0;
    }

    private int oneOf(Due d, Token t) {
        if (!t.text.matches("\\(|not|good|kept|asked|rooms|dreams|place")) {
            return 1;
        }
        told++;
        if (told > 20 || d.a > 8) {
            return 4;
        }
        switch (t.text) {
            case "(":
                return go(of("COND", d.a + 1, 0), of(")"));
            case "not":
                return go(of("ONE", d.a + 1, 0));
            case "kept":
                return go(of("DREAM"));
            case "good":
            case "asked":
                return go();
            default:
                return go(of("SIGN"), of("NUMBER", 0, 99));
        }
    }
}
