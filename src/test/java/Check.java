import java.lang.reflect.InvocationTargetException;
import java.util.Arrays;
import java.util.List;

/** What the tests share: counting what is wrong, telling what throws, and feeding texts. */
final class Check {
    /** Answers that stand for what a call threw. */
    static final long NO_SUCH = Long.MIN_VALUE;
    static final long WRONG = Long.MIN_VALUE + 1;

    interface Call {
        long answer();
    }

    private int checks;
    private int wrong;
    private String part = "";

    void part(String name) {
        part = name;
    }

    void due(String what, long want, Call call) {
        checks++;
        long got = answerOf(call);
        if (got != want) {
            wrong++;
            System.out.println(part + ": " + what + " answered " + told(got) + ", due is " + told(want));
        }
    }

    void noSuch(String what, Call call) {
        due(what, NO_SUCH, call);
    }

    void wrong(String what, Call call) {
        due(what, WRONG, call);
    }

    /** Two pictures that must be alike; the first line that is not is told. */
    void same(String what, List<String> got, List<String> want) {
        checks++;
        if (got.equals(want)) {
            return;
        }
        wrong++;
        int i = 0;
        while (i < got.size() && i < want.size() && got.get(i).equals(want.get(i))) {
            i++;
        }
        System.out.println(part + ": " + what + " left " + (i < got.size() ? got.get(i) : "less")
                + ", due is " + (i < want.size() ? want.get(i) : "no more"));
    }

    void end() {
        System.out.println(checks + " answers, " + wrong + " not as due");
        if (wrong != 0 || checks == 0) {
            System.exit(1);
        }
    }

    /** Any other exception goes on, and ends the test with a trace. */
    static long answerOf(Call call) {
        try {
            return call.answer();
        } catch (java.util.NoSuchElementException e) {
            return NO_SUCH;
        } catch (IllegalArgumentException e) {
            return WRONG;
        }
    }

    static String told(long answer) {
        return answer == NO_SUCH ? "throws.NoSuchElementException"
                : answer == WRONG ? "throws.IllegalArgumentException" : Long.toString(answer);
    }

    /** What a call by its name answers, of the class or of its oracle; other exceptions go on. */
    static long call(Object of, String name, Object... arguments) {
        Class<?>[] types = new Class<?>[arguments.length];
        Arrays.fill(types, int.class);
        try {
            return ((Number) of.getClass().getMethod(name, types).invoke(of, arguments)).longValue();
        } catch (InvocationTargetException e) {
            Class<?> thrown = e.getCause().getClass();
            if (thrown == java.util.NoSuchElementException.class) {
                return NO_SUCH;
            }
            if (thrown == IllegalArgumentException.class) {
                return WRONG;
            }
            throw new IllegalStateException(name + " threw", e.getCause());
        } catch (ReflectiveOperationException e) {
            throw new IllegalStateException(e);
        }
    }

    /** Feeds and reads a text by the call's name, of the class or of its oracle. */
    static long callText(Object of, String name, String text) {
        for (int i = 0; i < text.length(); i += 20) {
            call(of, "feed", number(text, i), number(text, i + 4), number(text, i + 8), number(text, i + 12),
                    number(text, i + 16));
        }
        return call(of, name, text.length());
    }

    /** Puts a text on the TAPE, zeros behind it to whole twenties. */
    static void feed(MoodBelfries x, String text) {
        for (int i = 0; i < text.length(); i += 20) {
            x.feed(number(text, i), number(text, i + 4), number(text, i + 8), number(text, i + 12),
                    number(text, i + 16));
        }
    }

    static int number(String text, int from) {
        int number = 0;
        for (int i = from; i < from + 4; i++) {
            number = number << 8 | (i < text.length() ? text.charAt(i) & 255 : 0);
        }
        return number;
    }

    /** What a text of this kind answers, read by the call of that name. */
    static int read(MoodBelfries x, String kind, String text) {
        feed(x, text);
        return readFirst(x, kind, text.length());
    }

    /** What the first n bytes of the TAPE answer. */
    static int readFirst(MoodBelfries x, String kind, int n) {
        switch (kind) {
            case "district": return x.district(n);
            case "law": return x.law(n);
            case "work": return x.work(n);
            case "book": return x.book(n);
            default: throw new IllegalStateException(kind);
        }
    }

    static int district(MoodBelfries x, String text) {
        feed(x, text);
        return x.district(text.length());
    }

    static int law(MoodBelfries x, String text) {
        feed(x, text);
        return x.law(text.length());
    }

    static int work(MoodBelfries x, String text) {
        feed(x, text);
        return x.work(text.length());
    }

    static int book(MoodBelfries x, String text) {
        feed(x, text);
        return x.book(text.length());
    }
}
