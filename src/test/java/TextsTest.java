import java.util.ArrayList;
import java.util.List;
import java.util.Random;

/** Texts at random, right ones and such as are wrong by a few TOKENS, against a second reading: promises 4, 5, 26, 37, 41. */
public final class TextsTest {
    private static final String BOOK_AHEAD = "test a 9 0;test b 8 2;test c 5 5;test d 0 9;test ee 1 1;"
        + "dream k 1 a;dream l 20;dream mm 3 b c;";
    private static final List<String> TESTS = List.of("a", "b", "c", "d", "ee");
    private static final List<String> DREAMS = List.of("k", "l", "mm");
    private static final String[] TOKENS = {"test", "dream", "room", "tired", "sure", "late", "wrong", "learn", "in",
        "stays", "moves", "up", "bed", "or", "and", "not", "good", "kept", "asked", "rooms", "dreams", "place", "a", "b",
        "c", "d", "ee", "k", "l", "mm", "x", "zzzzzzz", "zzzzzzzz", "a1", "1a", "0", "1", "9", "10", "12", "13", "20",
        "21", "99", "100", ";", "<", "=", ">", "(", ")", ".", "A", "\u00ff", "\t"};
    private static final String[] NEW_NAMES = {"f", "g", "h", "i", "j", "n", "o", "p", "q", "r", "s", "t", "u", "v", "w",
        "y", "z"};

    private TextsTest() {
    }

    public static void main(String[] args) {
        int[] seen = new int[5];
        for (int seed = 0; seed < 40000; seed++) {
            Random random = new Random(seed);
            int sort = seed % 4;
            List<String> tokens = new ArrayList<>();
            right(sort, random, tokens);
            int wrong = random.nextInt(3);
            for (int i = 0; i < wrong; i++) {
                spoil(random, tokens);
            }
            seen[read(sort, join(tokens, random))]++;
        }
        for (int kind = 0; kind <= 4; kind++) {
            Due.is("FAULTS of kind " + kind + " came often enough", true, seen[kind] > 500);
        }
        Due.done("TextsTest");
    }

    /** By both readings; the kind of the FAULT. */
    private static int read(int sort, String text) {
        DreamTests x = Due.withBook(sort == Texts.BOOK ? "" : BOOK_AHEAD);
        List<String> none = List.of();
        Texts due = new Texts(sort, text, sort == Texts.BOOK ? none : TESTS, sort == Texts.BOOK ? none : DREAMS);
        Due.put(x, text);
        int told = sort == 0 ? x.book() : sort == 1 ? x.nights() : sort == 2 ? x.tree() : x.sentence();
        String what = "of sort " + sort + " '" + text + "'";
        Due.is("fault() " + what, due.kind, x.fault());
        if (due.kind > 0) {
            Due.is("the place " + what, (sort == Texts.NIGHTS ? -2 : -1) - due.place, told);
        } else if (sort == Texts.NIGHTS) {
            Due.is("a LINE or none " + what, true, told >= -1 && told < due.told);
        } else {
            Due.is("how many " + what, due.told, told);
        }
        if (due.kind == 0 && sort == Texts.BOOK) {
            Due.is("TESTS " + what, due.tests.size(), x.count(0));
            Due.is("DREAMS " + what, due.dreams.size(), x.count(1));
        }
        return due.kind;
    }

    private static String join(List<String> tokens, Random random) {
        StringBuilder text = new StringBuilder();
        String wide = random.nextInt(6) == 0 ? " ".repeat(random.nextInt(6)) : "";
        for (String token : tokens) {
            boolean close = token.length() == 1 && !Character.isLetterOrDigit(token.charAt(0));
            text.append(close && random.nextBoolean() ? "" : random.nextInt(8) == 0 ? "\n" : " ").append(wide);
            text.append(token);
        }
        if (random.nextInt(3) == 0) {
            text.append(" \n".repeat(random.nextInt(3)));
        }
        if (text.length() > 940) {
            text.setLength(940);
        }
        return text.toString();
    }

    private static void spoil(Random random, List<String> tokens) {
        int at = random.nextInt(tokens.size() + 1);
        String token = TOKENS[random.nextInt(TOKENS.length)];
        boolean within = at < tokens.size();
        int how = random.nextInt(6);
        if (how == 5 && within) {
            // NUMBERS by NUMBERS, so that some are not as told
            for (int i = at; i < tokens.size() && at >= 0; i++) {
                if (Character.isDigit(tokens.get(i).charAt(0))) {
                    tokens.set(i, "" + random.nextInt(30));
                    at = -1;
                }
            }
        } else if (how == 0 && within) {
            tokens.remove(at);
        } else if (how == 1 && within) {
            tokens.set(at, token);
        } else if (how == 2 && within) {
            tokens.set(at, tokens.get(random.nextInt(tokens.size())));
        } else if (how == 3 && within) {
            tokens.subList(at, tokens.size()).clear();
        } else {
            tokens.add(at, token);
        }
    }

    private static void add(List<String> tokens, String... more) {
        tokens.addAll(List.of(more));
    }

    private static void right(int sort, Random random, List<String> tokens) {
        switch (sort) {
            case Texts.BOOK:
                book(random, tokens);
                break;
            case Texts.NIGHTS:
                nights(random, tokens);
                break;
            case Texts.TREE:
                tree(random, tokens, new ArrayList<>(TESTS), random.nextInt(8) == 0 ? 5 : 4);
                break;
            default:
                cond(random, tokens, random.nextInt(9));
        }
    }

    private static String any(Random random, List<String> of) {
        return of.get(random.nextInt(of.size()));
    }

    private static void book(Random random, List<String> tokens) {
        List<String> names = new ArrayList<>(List.of(NEW_NAMES));
        List<String> tests = new ArrayList<>();
        int most = random.nextInt(4) == 0 ? 10 : 6;
        int lines = random.nextInt(25);
        int dreams = 0;
        List<String> once = new ArrayList<>(List.of("room 20", "tired 12", "sure 5", "late 0", "wrong 99", "learn"));
        for (int i = 0; i < lines; i++) {
            int kind = random.nextInt(3);
            if (kind == 0 && tests.size() < most && !names.isEmpty()) {
                String name = names.remove(0);
                tests.add(name);
                add(tokens, "test", name, "" + random.nextInt(10), "" + random.nextInt(10), ";");
            } else if (kind == 1 && dreams < most - 1 && !names.isEmpty()) {
                dreams++;
                add(tokens, "dream", names.remove(0), "" + (1 + random.nextInt(20)));
                for (String test : tests) {
                    if (random.nextInt(3) == 0) {
                        tokens.add(test);
                    }
                }
                tokens.add(";");
            } else if (!once.isEmpty()) {
                add(tokens, once.remove(random.nextInt(once.size())).split(" "));
                tokens.add(";");
            }
        }
    }

    private static void nights(Random random, List<String> tokens) {
        int lines = random.nextInt(random.nextInt(4) == 0 ? 50 : 10);
        int often = random.nextInt(30) + 2;
        for (int i = 0; i < lines; i++) {
            if (i == 0 || random.nextInt(often) == 0) {
                add(tokens, "in", random.nextBoolean() ? "room" : any(random, DREAMS), ";");
            } else if (random.nextInt(3) == 0) {
                add(tokens, random.nextBoolean() ? "up" : "bed", ";");
            } else {
                add(tokens, any(random, TESTS), random.nextBoolean() ? "stays" : "moves", ";");
            }
        }
    }

    private static void tree(Random random, List<String> tokens, List<String> left, int depth) {
        if (depth == 0 || random.nextInt(6) == 0) {
            tokens.add(random.nextBoolean() ? "up" : "bed");
            return;
        }
        String test = any(random, left);
        List<String> below = new ArrayList<>(left);
        if (random.nextInt(40) > 0) {
            below.remove(test);
        }
        add(tokens, test, "(");
        tree(random, tokens, below, depth - 1);
        tokens.add(";");
        tree(random, tokens, below, depth - 1);
        tokens.add(")");
    }

    private static void cond(Random random, List<String> tokens, int depth) {
        one(random, tokens, depth);
        for (int i = random.nextInt(4); i > 0; i--) {
            tokens.add(random.nextBoolean() ? "or" : "and");
            one(random, tokens, depth);
        }
    }

    private static void one(Random random, List<String> tokens, int depth) {
        int kind = random.nextInt(depth > 0 ? 8 : 4);
        if (kind >= 6) {
            tokens.add("(");
            cond(random, tokens, depth - 1);
            tokens.add(")");
        } else if (kind >= 4) {
            tokens.add("not");
            one(random, tokens, depth - 1);
        } else if (kind == 0) {
            add(tokens, "kept", any(random, DREAMS));
        } else if (kind == 1) {
            add(tokens, new String[] {"rooms", "dreams", "place"}[random.nextInt(3)],
                new String[] {"<", "=", ">"}[random.nextInt(3)], "" + random.nextInt(12));
        } else {
            tokens.add(kind == 2 ? "good" : "asked");
        }
    }
}
