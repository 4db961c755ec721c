import java.util.List;

/**
 * The bounds of arguments: each call with all its arguments at a bound, one below, one above, and at
 * the ends of int, in all combinations. One that is out of its bounds is refused by the exception that
 * is due, once, and leaves all as it was; one that is not answers as the oracle.
 */
public final class ArgumentTests {
    /** m: no such BELL, HOUSE, DEED; w: wrong; f: any; r: a ROW of the n ahead of it; p: its places. */
    private record Bound(char kind, int least, int most) {
    }

    private static final Check c = new Check();
    private static final int[] MANY_ROWS = {1, 1, 2, 6, 24, 120, 720};
    private static final int BATCH = 60;

    private final String[][] texts;
    private final int bells;
    private final int houses;
    private final int deeds;
    private List<String> untouched;
    private MoodBelfries x;
    private Oracle y;
    private int calls;
    private int missing;
    private int wrong;

    private ArgumentTests(String[][] texts, int bells, int houses, int deeds) {
        this.texts = texts;
        this.bells = bells;
        this.houses = houses;
        this.deeds = deeds;
    }

    public static void main(String[] args) {
        String[][] none = {};
        String[][] some = {
            {"district", "bell 3 30;bell 5 20;house 4 3;house 10 6;deed 0 3 20;deed 1 5 9;damp 3;"},
            {"law", "loud - far + cracks * 2 + pulled - damp"},
            {"book", "1 7;"},
            {"work", "pull 0;crack 1;gag 1;bring 0;hour;"},
            {"work", "steal 1;damp 5;bring 0;pull 0;hour;"}};
        String[][] full = {
            {"district", "bell 0 1;bell 9 60;bell 4 30;".repeat(2) + "house 0 0;".repeat(5) + "house 30 9;house 9 4;"
                    + "deed 6 9 200;".repeat(7) + "deed 0 0 1;"},
            {"work", "again 3[pull 0;pull 1;pull 5;hour;];"}};
        new ArgumentTests(none, 0, 0, 0).all();
        new ArgumentTests(some, 2, 2, 2).all();
        new ArgumentTests(full, 6, 7, 8).all();
        c.end();
    }

    private void all() {
        c.part(bells + " bells");
        begin();
        untouched = Picture.of(x);
        begin();
        Bound bell = new Bound('m', 0, bells - 1);
        Bound house = new Bound('m', 0, houses - 1);
        Bound deed = new Bound('m', 0, deeds - 1);
        grid("told", to(11));
        grid("bell", bell, to(5));
        grid("house", house, to(3));
        grid("deed", deed, to(3));
        grid("temper", house, to(9));
        grid("heard", bell, house);
        grid("ahead", to(99), to(2));
        grid("sleeps", house);
        grid("rouse", house, to(999));
        grid("suited", bell);
        grid("pulls", deed, to(1));
        grid("cast", to(1));
        grid("ask", to(1));
        grid("metal", bell, to((1 << bells) - 1), to(999));
        grid("loudest", to(1));
        grid("deaf", bell);
        grid("kin", to(9));
        Bound hours = new Bound('w', 1, 96);
        Bound seed = new Bound('f', Integer.MIN_VALUE, Integer.MAX_VALUE);
        grid("century", seed, hours, to(16), to(3));
        grid("span", seed, new Bound('w', 1, 20), hours, to(16), to(2), to(houses - 1));
        grid("status", seed);
        grid("count", seed);
        ofRows();
        would();
        end();
    }

    private void ofRows() {
        Bound n = new Bound('w', 1, 6);
        Bound row = new Bound('r', 0, 0);
        grid("changes", n, row);
        grid("next", n, row);
        grid("place", n, row, new Bound('p', 0, 0));
        grid("within", n, to(15));
        grid("ringers", to(99), to(99), to(2));
        grid("sounds", to(12), to(12), to(16), to(1));
    }

    private static Bound to(int most) {
        return new Bound('w', 0, most);
    }

    private void begin() {
        x = new MoodBelfries();
        y = new Oracle();
        for (String[] text : texts) {
            Check.callText(x, text[0], text[1]);
            Check.callText(y, text[0], text[1]);
        }
        calls = 0;
        missing = 0;
        wrong = 0;
    }

    private void end() {
        c.same("asked " + calls + " times", Picture.of(x), untouched);
    }

    private void grid(String name, Bound... bounds) {
        go(name, bounds, new Object[bounds.length], 0);
    }

    private void go(String name, Bound[] bounds, Object[] arguments, int at) {
        if (at == bounds.length) {
            ask(name, bounds, arguments);
            return;
        }
        for (int value : edges(bound(bounds, arguments, at))) {
            arguments[at] = value;
            go(name, bounds, arguments, at + 1);
        }
    }

    /** The bound of a ROW and of a place goes by the n ahead of them. */
    private static Bound bound(Bound[] bounds, Object[] arguments, int at) {
        char kind = bounds[at].kind;
        if (kind != 'r' && kind != 'p') {
            return bounds[at];
        }
        int n = (Integer) arguments[0];
        int most = n < 1 || n > 6 ? 0 : kind == 'r' ? MANY_ROWS[n] - 1 : n - 1;
        return new Bound('w', 0, most);
    }

    private static int[] edges(Bound bound) {
        if (bound.kind == 'f') {
            return new int[] {Integer.MIN_VALUE, -1, 0, 1, 2, 3, Integer.MAX_VALUE};
        }
        return new int[] {Integer.MIN_VALUE, bound.least - 1, bound.least, bound.most, bound.most + 1,
            Integer.MAX_VALUE};
    }

    private void ask(String name, Bound[] bounds, Object[] arguments) {
        long due = 0;
        for (int i = 0; i < bounds.length; i++) {
            Bound bound = bound(bounds, arguments, i);
            int value = (Integer) arguments[i];
            if (value < bound.least || value > bound.most) {
                due = bound.kind == 'm' || due == Check.NO_SUCH ? Check.NO_SUCH : Check.WRONG;
            }
        }
        askDue(name, arguments, due);
    }

    private void askDue(String name, Object[] arguments, long refusal) {
        long byOracle = Check.call(y, name, arguments);
        String call = name + java.util.Arrays.toString(arguments);
        c.due(call, refusal == 0 ? byOracle : refusal, () -> Check.call(x, name, arguments));
        missing += refusal == Check.NO_SUCH ? 1 : 0;
        wrong += refusal == Check.WRONG ? 1 : 0;
        c.due("status(0) behind " + call, missing, () -> x.status(0));
        c.due("status(1) behind " + call, wrong, () -> x.status(1));
        calls++;
        if (calls >= BATCH) {
            end();
            begin();
        }
    }

    /** Nine arguments are too many for all combinations: one at a time, the others at both bounds. */
    private void would() {
        int[] least = {1, 0, 0, 0, 0, 0, 0, 0, 0};
        int[] most = {60, 30, 9, 3, 9, 999, 23, 6, 6};
        for (int high = 0; high < 512; high += 7) {
            Object[] arguments = new Object[9];
            for (int i = 0; i < 9; i++) {
                arguments[i] = (high >> i & 1) == 1 ? most[i] : least[i];
            }
            askDue("would", arguments, 0);
            int i = high % 9;
            for (int out : new int[] {least[i] - 1, most[i] + 1, Integer.MIN_VALUE, Integer.MAX_VALUE}) {
                Object[] other = arguments.clone();
                other[i] = out;
                askDue("would", other, Check.WRONG);
            }
        }
    }
}
