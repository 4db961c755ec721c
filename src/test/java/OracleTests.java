import java.lang.reflect.Method;
import java.lang.reflect.Modifier;
import java.util.ArrayList;
import java.util.Comparator;
import java.util.List;
import java.util.Random;

/** Random runs of at most 512 calls, each answer compared with the oracle's. Seeds are fixed. */
public final class OracleTests {
    private static final int RUNS = 430;
    /** No text is begun behind these; the longest takes 31 feeds, of which one is too many, and two calls. */
    private static final int CALLS = 479;
    private static final int LONGEST = 620;

    private final Random random;
    private final int run;
    private final MoodBelfries x = new MoodBelfries();
    private final Oracle y = new Oracle();
    private final List<String> told = new ArrayList<>();
    private int calls;
    private int wrong;

    private OracleTests(int run) {
        this.run = run;
        this.random = new Random(run);
    }

    public static void main(String[] args) {
        int wrong = 0;
        int calls = 0;
        for (int run = 0; run < RUNS && wrong == 0; run++) {
            OracleTests test = new OracleTests(run);
            test.go();
            wrong += test.wrong;
            calls += test.calls;
        }
        System.out.println(calls + " random calls, " + wrong + " not as the oracle's");
        if (wrong != 0) {
            System.exit(1);
        }
    }

    private static final List<Method> FACE = face();

    private static List<Method> face() {
        List<Method> face = new ArrayList<>();
        for (Method m : MoodBelfries.class.getDeclaredMethods()) {
            if (Modifier.isPublic(m.getModifiers())) {
                face.add(m);
            }
        }
        face.sort(Comparator.comparing(Method::getName));
        return face;
    }

    private void go() {
        text("district", district());
        while (calls < CALLS && wrong == 0) {
            int kind = random.nextInt(100);
            if (kind < 2) {
                text("district", spoilt(district()));
            } else if (kind < 6) {
                text("law", spoilt(law(3)));
            } else if (kind < 14) {
                text("work", spoilt(work(2)));
            } else if (kind < 18) {
                text("book", spoilt(book()));
            } else if (kind < 24) {
                call(new String[] {"undo", "image", "restore"}[random.nextInt(3)]);
                call("told", random.nextInt(12));
            } else {
                Method m = FACE.get(random.nextInt(FACE.size()));
                if (!m.getName().equals("district") || random.nextInt(4) == 0) {
                    call(m.getName(), arguments(m));
                }
            }
        }
    }

    /** Mostly within the bounds of some call, at times at an edge of int. */
    private Object[] arguments(Method m) {
        Object[] a = new Object[m.getParameterCount()];
        int wide = random.nextInt(6);
        for (int i = 0; i < a.length; i++) {
            int n = wide == 0 ? random.nextInt(60) - 5 : wide == 1 ? random.nextInt(20) : random.nextInt(7);
            if (random.nextInt(300) == 0) {
                n = random.nextBoolean() ? Integer.MIN_VALUE : Integer.MAX_VALUE;
            }
            a[i] = n;
        }
        String name = m.getName();
        if (name.equals("century") || name.equals("span")) {
            a[0] = random.nextInt();
        }
        if (name.equals("century")) {
            a[1] = random.nextInt(98);
        }
        if (name.equals("would") && random.nextBoolean()) {
            int[] most = {60, 30, 9, 3, 9, 999, 23, 6, 6};
            for (int i = 0; i < 9; i++) {
                a[i] = random.nextInt(most[i] + 1);
            }
        }
        if (name.equals("changes") || name.equals("next") || name.equals("place")) {
            a[1] = random.nextInt(random.nextBoolean() ? 722 : 25) - 1;
        }
        if (name.equals("rouse") || name.equals("metal")) {
            a[a.length - 1] = random.nextInt(random.nextBoolean() ? 1002 : 200) - 1;
        }
        return a;
    }

    private void text(String name, String whole) {
        String text = whole.length() > LONGEST ? whole.substring(0, LONGEST) : whole;
        for (int i = 0; i < text.length(); i += 20) {
            call("feed", Check.number(text, i), Check.number(text, i + 4), Check.number(text, i + 8),
                    Check.number(text, i + 12), Check.number(text, i + 16));
        }
        told.add("\"" + text + "\"");
        call(name, text.length());
        call("fault");
    }

    private void call(String name, Object... arguments) {
        calls++;
        long got = Check.call(x, name, arguments);
        long want = Check.call(y, name, arguments);
        told.add(name + java.util.Arrays.toString(arguments) + " " + Check.told(got));
        if (got != want) {
            wrong++;
            System.out.println("run " + run + ":");
            for (String line : told) {
                System.out.println("  " + line);
            }
            System.out.println("  the oracle's answer: " + Check.told(want));
        }
    }

    private String blanks() {
        int n = random.nextInt(12);
        return n == 0 ? "  " : n < 5 ? " " : "";
    }

    private String number(int least, int most) {
        int n = random.nextInt(60) == 0 ? random.nextBoolean() ? most + 1 : Math.max(0, least - 1)
                : least + random.nextInt(Math.max(1, most - least + 1));
        return blanks() + (random.nextInt(40) == 0 ? "00" : "") + n;
    }

    private String district() {
        StringBuilder text = new StringBuilder();
        int bells = random.nextInt(random.nextInt(8) == 0 ? 8 : 7);
        int houses = random.nextInt(random.nextInt(8) == 0 ? 9 : 8);
        int deeds = houses == 0 ? 0 : random.nextInt(random.nextInt(8) == 0 ? 10 : 9);
        for (int i = 0; i < houses; i++) {
            text.append(blanks()).append("house ").append(number(0, 30)).append(' ').append(number(0, 9)).append(';');
        }
        for (int i = 0; i < bells; i++) {
            text.append("bell ").append(number(0, 9)).append(' ').append(number(1, 60)).append(blanks()).append(';');
        }
        for (int i = 0; i < deeds; i++) {
            text.append("deed ").append(number(0, houses - 1)).append(' ').append(number(0, 9)).append(' ')
                    .append(number(1, 200)).append(';');
        }
        if (random.nextBoolean()) {
            text.append("damp").append(number(0, 9)).append(';');
        }
        if (random.nextInt(30) == 0) {
            text.append("damp 1;".repeat(random.nextInt(20) + 35));
        }
        return text.length() > 600 ? text.substring(0, 600) : text.toString();
    }

    private String law(int depth) {
        StringBuilder text = new StringBuilder(term(depth));
        for (int i = random.nextInt(3); i > 0; i--) {
            text.append(blanks()).append(random.nextBoolean() ? "+" : "-").append(blanks()).append(term(depth));
        }
        return text.append(blanks()).toString();
    }

    private String term(int depth) {
        StringBuilder text = new StringBuilder(unit(depth));
        for (int i = random.nextInt(3); i > 0; i--) {
            text.append(blanks()).append("*/%".charAt(random.nextInt(3))).append(blanks()).append(unit(depth));
        }
        return text.toString();
    }

    private String unit(int depth) {
        String[] words = {"loud", "far", "apart", "cracks", "damp", "pulled", "hour", "bell", "house", "loud"};
        int kind = random.nextInt(depth > 0 ? 9 : 6);
        if (kind < 4) {
            return blanks() + words[random.nextInt(words.length)];
        }
        if (kind < 6) {
            return number(0, random.nextBoolean() ? 12 : 999);
        }
        if (kind == 6) {
            return "(" + law(depth - 1) + ")";
        }
        return (kind == 7 ? "least" : "most") + blanks() + "[" + law(depth - 1) + "," + law(depth - 1) + "]";
    }

    private String work(int depth) {
        StringBuilder text = new StringBuilder();
        String[] words = {"pull", "pull", "pull", "crack", "gag", "steal", "bring"};
        int bells = Math.max(1, y.told(0));
        for (int i = random.nextInt(6); i > 0; i--) {
            int kind = random.nextInt(depth > 0 ? 13 : 11);
            if (kind < 8) {
                text.append(blanks()).append(words[random.nextInt(words.length)]).append(number(0, bells - 1));
            } else if (kind == 8) {
                text.append("damp").append(number(0, 9));
            } else if (kind < 11) {
                text.append("hour");
            } else {
                text.append("again").append(number(0, 60)).append(blanks()).append("[").append(work(depth - 1))
                        .append("]");
            }
            text.append(blanks()).append(";");
        }
        return text.append(blanks()).toString();
    }

    /** Lines as an unknown bell of some pair would make them, but for one at times. */
    private String book() {
        StringBuilder text = new StringBuilder();
        int houses = y.told(1);
        int mood = random.nextInt(10);
        int loud = 1 + random.nextInt(60);
        for (int h = 0; h < houses; h++) {
            if (random.nextInt(3) == 0) {
                int heard = y.would(loud, y.house(h, 0), Math.abs(mood - y.house(h, 1)), 0, y.told(4), 0,
                        y.told(3) % 24, 6, h);
                text.append(random.nextInt(25) == 0 ? number(0, houses) : h).append(' ')
                        .append(random.nextInt(25) == 0 ? number(0, 99) : heard).append(';');
            }
        }
        return text.toString();
    }

    /** At times a byte more, less or other. */
    private String spoilt(String text) {
        String bytes = " ;[](),+-*/%059azl\0\t" + (char) 200;
        StringBuilder other = new StringBuilder(text);
        if (random.nextInt(4) == 0 && other.length() > 0) {
            int at = random.nextInt(other.length());
            int kind = random.nextInt(4);
            if (kind == 0) {
                other.deleteCharAt(at);
            } else if (kind == 1) {
                other.insert(at, bytes.charAt(random.nextInt(bytes.length())));
            } else if (kind == 2) {
                other.setCharAt(at, bytes.charAt(random.nextInt(bytes.length())));
            } else {
                other.setLength(at);
            }
        }
        return other.toString();
    }
}
