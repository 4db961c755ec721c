import java.math.BigInteger;
import java.util.ArrayDeque;
import java.util.ArrayList;
import java.util.Arrays;
import java.util.HashMap;
import java.util.HashSet;
import java.util.List;
import java.util.Map;
import java.util.NoSuchElementException;
import java.util.Set;
import java.util.TreeMap;

/** The document told a second time, by trying all ways and by the Java library, for tests alone. */
public final class Oracle {
    /** A FAULT of a text. */
    private static final class Fault extends Exception {
        private static final long serialVersionUID = 1L;
        final int kind;
        final int place;

        Fault(int kind, int place) {
            super(null, null, false, false);
            this.kind = kind;
            this.place = place;
        }
    }

    private record Token(char kind, String text, int place) {
        boolean is(String other) {
            return text.equals(other);
        }

        int number(int least, int most) throws Fault {
            if (kind != 'n') {
                throw new Fault(1, place);
            }
            BigInteger value = new BigInteger(text);
            if (value.compareTo(BigInteger.valueOf(least)) < 0 || value.compareTo(BigInteger.valueOf(most)) > 0) {
                throw new Fault(2, place);
            }
            return value.intValue();
        }
    }

    /** Tokens of a text, the last of which is its end. */
    private static final class Tokens {
        final List<Token> all = new ArrayList<>();
        int next;
        int open;

        Tokens(String text) {
            int i = 0;
            while (i < text.length()) {
                int j = i + 1;
                char c = text.charAt(i);
                char kind = isDigit(c) ? 'n' : isSmall(c) ? 'w' : c;
                while (kind == 'n' && j < text.length() && isDigit(text.charAt(j))
                        || kind == 'w' && j < text.length() && isSmall(text.charAt(j))) {
                    j++;
                }
                if (c != ' ') {
                    all.add(new Token(kind, text.substring(i, j), i));
                }
                i = j;
            }
            all.add(new Token('e', "", text.length()));
        }

        static boolean isDigit(char c) {
            return c >= '0' && c <= '9';
        }

        static boolean isSmall(char c) {
            return c >= 'a' && c <= 'z';
        }

        Token peek() {
            return all.get(next);
        }

        Token pop() {
            return all.get(Math.min(next++, all.size() - 1));
        }

        boolean ended() {
            return peek().kind == 'e';
        }

        void must(String sign) throws Fault {
            Token t = pop();
            if (!t.is(sign)) {
                throw new Fault(1, t.place);
            }
        }

        void opens(Token t) throws Fault {
            if (++open == 7) {
                throw new Fault(3, t.place);
            }
        }
    }

    private interface Node {
        int of(Map<String, Integer> known);
    }

    private record Step(String word, int number, List<Step> inside, int place) {
    }

    private static final class Bell {
        final int mood;
        final int loud;
        int cracks;
        boolean gagged;
        boolean stolen;
        int pulled;

        Bell(int mood, int loud) {
            this.mood = mood;
            this.loud = loud;
        }

        Bell copy() {
            Bell b = new Bell(mood, loud);
            b.cracks = cracks;
            b.gagged = gagged;
            b.stolen = stolen;
            b.pulled = pulled;
            return b;
        }

        boolean speaks() {
            return !gagged && !stolen;
        }
    }

    private static final class World {
        int hour;
        int damp;
        List<Bell> bells = new ArrayList<>();
        List<int[]> tempers = new ArrayList<>();

        World copy() {
            World w = new World();
            w.hour = hour;
            w.damp = damp;
            for (Bell b : bells) {
                w.bells.add(b.copy());
            }
            for (int[] t : tempers) {
                w.tempers.add(t.clone());
            }
            return w;
        }

        void hour() {
            for (int[] temper : tempers) {
                for (int m = 0; m < 10; m++) {
                    int less = temper[m] / 4 + 1;
                    temper[m] = less > temper[m] ? 0 : temper[m] - less;
                }
            }
            hour++;
        }

        int sum(int house) {
            return Arrays.stream(tempers.get(house)).sum();
        }

        int sum() {
            return tempers.stream().mapToInt(t -> Arrays.stream(t).sum()).sum();
        }

        int mood(int house) {
            int[] t = tempers.get(house);
            int most = Arrays.stream(t).max().getAsInt();
            for (int m = 0; m < 10 && most > 0; m++) {
                if (t[m] == most) {
                    return m;
                }
            }
            return -1;
        }

        int moody() {
            int bits = 0;
            for (int h = 0; h < tempers.size(); h++) {
                bits |= sum(h) > 0 ? 1 << h : 0;
            }
            return bits;
        }

        int speaking() {
            int bits = 0;
            for (int b = 0; b < bells.size(); b++) {
                bits |= bells.get(b).speaks() ? 1 << b : 0;
            }
            return bits;
        }
    }

    private record Image(World world, List<World> works) {
    }

    private String tape = "";
    private int fault = -1;
    private final List<int[]> houses = new ArrayList<>();
    private final List<int[]> deeds = new ArrayList<>();
    private World now = new World();
    private Node law = commonLaw();
    private Map<Integer, Integer> lines = new TreeMap<>();
    private List<World> works = new ArrayList<>();
    private final List<Image> images = new ArrayList<>();
    private int refused;
    private int noSuch;
    private int wrong;
    private int begun;
    private int done;

    public int feed(int a, int b, int c, int d, int e) {
        if (tape.length() > 580) {
            return -1;
        }
        StringBuilder more = new StringBuilder(tape);
        for (int n : new int[] {a, b, c, d, e}) {
            more.append((char) (n >>> 24)).append((char) (n >>> 16 & 255)).append((char) (n >>> 8 & 255))
                    .append((char) (n & 255));
        }
        tape = more.toString();
        return tape.length();
    }

    private Tokens take(int n) {
        Tokens t = new Tokens(tape.substring(0, n));
        tape = "";
        fault = -1;
        return t;
    }

    private void text(int n, int most) {
        need(n, 0, Math.min(most, tape.length()));
    }

    private int fail(Fault f) {
        fault = f.place;
        return f.kind - 10;
    }

    public int district(int n) {
        text(n, 600);
        World world = new World();
        List<int[]> newHouses = new ArrayList<>();
        List<int[]> newDeeds = new ArrayList<>();
        Tokens t = take(n);
        try {
            int clauses = 0;
            while (!t.ended()) {
                Token word = t.pop();
                if (!List.of("bell", "house", "deed", "damp").contains(word.text)) {
                    throw new Fault(1, word.place);
                }
                boolean many = clauses++ == 60;
                if (word.is("bell")) {
                    if (many || world.bells.size() == 6) {
                        throw new Fault(3, word.place);
                    }
                    int mood = t.pop().number(0, 9);
                    world.bells.add(new Bell(mood, t.pop().number(1, 60)));
                } else if (word.is("house")) {
                    if (many || newHouses.size() == 7) {
                        throw new Fault(3, word.place);
                    }
                    int far = t.pop().number(0, 30);
                    newHouses.add(new int[] {far, t.pop().number(0, 9)});
                    world.tempers.add(new int[10]);
                } else if (word.is("deed")) {
                    if (many || newDeeds.size() == 8) {
                        throw new Fault(3, word.place);
                    }
                    int house = t.pop().number(0, newHouses.size() - 1);
                    int mood = t.pop().number(0, 9);
                    newDeeds.add(new int[] {house, mood, t.pop().number(1, 200)});
                } else {
                    if (many) {
                        throw new Fault(3, word.place);
                    }
                    world.damp = t.pop().number(0, 9);
                }
                t.must(";");
            }
        } catch (Fault f) {
            return fail(f);
        }
        now = world;
        houses.clear();
        houses.addAll(newHouses);
        deeds.clear();
        deeds.addAll(newDeeds);
        law = commonLaw();
        lines.clear();
        works.clear();
        images.clear();
        refused = 0;
        return now.bells.size();
    }

    private static Node commonLaw() {
        return k -> k.get("loud") - k.get("far") - k.get("apart") * 3 - k.get("damp");
    }

    public int law(int n) {
        text(n, 150);
        Tokens t = take(n);
        try {
            Node e = e(t);
            if (!t.ended()) {
                throw new Fault(1, t.peek().place);
            }
            law = e;
            return 1;
        } catch (Fault f) {
            return fail(f);
        }
    }

    private static Node e(Tokens t) throws Fault {
        Node left = t(t);
        while (t.peek().is("+") || t.peek().is("-")) {
            boolean plus = t.pop().is("+");
            Node a = left;
            Node b = t(t);
            left = plus ? k -> a.of(k) + b.of(k) : k -> a.of(k) - b.of(k);
        }
        return left;
    }

    private static Node t(Tokens t) throws Fault {
        Node left = u(t);
        while (t.peek().is("*") || t.peek().is("/") || t.peek().is("%")) {
            String sign = t.pop().text;
            Node a = left;
            Node b = u(t);
            left = k -> {
                long x = a.of(k);
                long y = b.of(k);
                return (int) (sign.equals("*") ? x * y : y == 0 ? 0 : sign.equals("/") ? x / y : x % y);
            };
        }
        return left;
    }

    private static final Set<String> KNOWN = new HashSet<>(
            List.of("loud", "far", "apart", "cracks", "damp", "pulled", "hour", "bell", "house"));

    private static Node u(Tokens t) throws Fault {
        Token first = t.pop();
        if (first.kind == 'n') {
            int n = first.number(0, 999);
            return k -> n;
        }
        if (KNOWN.contains(first.text)) {
            return k -> k.get(first.text);
        }
        if (first.is("(")) {
            t.opens(first);
            Node inner = e(t);
            t.must(")");
            t.open--;
            return inner;
        }
        if (!first.is("least") && !first.is("most")) {
            throw new Fault(1, first.place);
        }
        t.opens(first);
        t.must("[");
        Node a = e(t);
        t.must(",");
        Node b = e(t);
        t.must("]");
        t.open--;
        return first.is("least") ? k -> Math.min(a.of(k), b.of(k)) : k -> Math.max(a.of(k), b.of(k));
    }

    public int work(int n) {
        text(n, 150);
        if (works.size() == 16) {
            take(0);
            return -20;
        }
        Tokens t = take(n);
        List<Step> steps = new ArrayList<>();
        try {
            while (!t.ended()) {
                steps.add(step(t));
                t.must(";");
            }
        } catch (Fault f) {
            return fail(f);
        }
        works.add(now.copy());
        begun = 0;
        done = 0;
        refused = 0;
        doAll(steps);
        return done;
    }

    private Step step(Tokens t) throws Fault {
        Token word = t.pop();
        switch (word.text) {
            case "pull": case "crack": case "gag": case "steal": case "bring":
                return new Step(word.text, t.pop().number(0, now.bells.size() - 1), null, word.place);
            case "damp":
                return new Step(word.text, t.pop().number(0, 9), null, word.place);
            case "hour":
                return new Step(word.text, 0, null, word.place);
            case "again":
                t.opens(word);
                int times = t.pop().number(0, 60);
                t.must("[");
                List<Step> inside = new ArrayList<>();
                while (!t.peek().is("]")) {
                    inside.add(step(t));
                    t.must(";");
                }
                t.must("]");
                t.open--;
                return new Step(word.text, times, inside, word.place);
            default:
                throw new Fault(1, word.place);
        }
    }

    private void doAll(List<Step> steps) {
        for (Step s : steps) {
            if (begun == 200) {
                return;
            }
            begun++;
            if (s.inside != null) {
                for (int i = 0; i < s.number; i++) {
                    doAll(s.inside);
                }
            } else if (doOne(now, s.word, s.number)) {
                done++;
            } else {
                refused++;
            }
        }
    }

    private boolean doOne(World w, String word, int n) {
        Bell b = word.equals("damp") || word.equals("hour") ? null : w.bells.get(n);
        switch (word) {
            case "pull":
                if (!b.speaks()) {
                    return false;
                }
                int[] more = new int[houses.size()];
                for (int h = 0; h < more.length; h++) {
                    more[h] = heardIn(w, n, h);
                }
                for (int h = 0; h < more.length; h++) {
                    w.tempers.get(h)[b.mood] = Math.min(999, w.tempers.get(h)[b.mood] + more[h]);
                }
                b.pulled++;
                return true;
            case "crack":
                if (b.stolen || b.cracks == 3) {
                    return false;
                }
                b.cracks++;
                return true;
            case "gag":
                if (b.stolen) {
                    return false;
                }
                b.gagged = !b.gagged;
                return true;
            case "steal":
                boolean had = !b.stolen;
                b.stolen = true;
                return had;
            case "bring":
                boolean gone = b.stolen;
                b.stolen = false;
                return gone;
            case "damp":
                boolean other = w.damp != n;
                w.damp = n;
                return other;
            default:
                if (w.hour >= 900) {
                    return false;
                }
                w.hour();
                return true;
        }
    }

    private int heardIn(World w, int bell, int h) {
        Bell b = w.bells.get(bell);
        return heardOf(w, b, bell, h);
    }

    private int heardOf(World w, Bell b, int bell, int h) {
        return byLaw(b.loud, houses.get(h)[0], Math.abs(b.mood - houses.get(h)[1]), b.cracks, w.damp, b.pulled,
                w.hour % 24, bell, h);
    }

    private int byLaw(int... values) {
        String[] names = {"loud", "far", "apart", "cracks", "damp", "pulled", "hour", "bell", "house"};
        Map<String, Integer> known = new HashMap<>();
        for (int i = 0; i < names.length; i++) {
            known.put(names[i], values[i]);
        }
        return Math.max(0, Math.min(99, law.of(known)));
    }

    public int book(int n) {
        text(n, 60);
        Tokens t = take(n);
        Map<Integer, Integer> told = new TreeMap<>();
        try {
            while (!t.ended()) {
                Token first = t.pop();
                int house = first.number(0, houses.size() - 1);
                if (told.containsKey(house)) {
                    throw new Fault(2, first.place);
                }
                told.put(house, t.pop().number(0, 99));
                t.must(";");
            }
        } catch (Fault f) {
            return fail(f);
        }
        lines = told;
        return lines.size();
    }

    public int fault() {
        return fault;
    }

    public int undo() {
        if (works.isEmpty()) {
            return -1;
        }
        now = works.remove(works.size() - 1);
        refused = 0;
        return works.size();
    }

    public int told(int what) {
        need(what, 0, 11);
        int stolen = 0;
        int pulled = 0;
        for (int b = 0; b < now.bells.size(); b++) {
            stolen |= now.bells.get(b).stolen ? 1 << b : 0;
            pulled += now.bells.get(b).pulled;
        }
        return new int[] {now.bells.size(), houses.size(), deeds.size(), now.hour, now.damp, now.speaking(), stolen,
            doneBits(now), now.sum(), lines.size(), refused, pulled}[what];
    }

    private boolean isDone(World w, int deed) {
        int[] d = deeds.get(deed);
        return w.tempers.get(d[0])[d[1]] >= d[2];
    }

    private int doneBits(World w) {
        int bits = 0;
        for (int d = 0; d < deeds.size(); d++) {
            bits |= isDone(w, d) ? 1 << d : 0;
        }
        return bits;
    }

    public int bell(int bell, int what) {
        there(bell, now.bells.size());
        need(what, 0, 5);
        Bell b = now.bells.get(bell);
        return new int[] {b.mood, b.loud, b.cracks, b.gagged ? 1 : 0, b.stolen ? 1 : 0, b.pulled}[what];
    }

    public int house(int house, int what) {
        there(house, houses.size());
        need(what, 0, 3);
        return new int[] {houses.get(house)[0], houses.get(house)[1], now.mood(house), now.sum(house)}[what];
    }

    public int deed(int deed, int what) {
        there(deed, deeds.size());
        need(what, 0, 3);
        return what == 3 ? isDone(now, deed) ? 1 : 0 : deeds.get(deed)[what];
    }

    public int temper(int house, int mood) {
        there(house, houses.size());
        need(mood, 0, 9);
        return now.tempers.get(house)[mood];
    }

    public int heard(int bell, int house) {
        there(bell, now.bells.size());
        there(house, houses.size());
        return heardIn(now, bell, house);
    }

    public int would(int loud, int far, int apart, int cracks, int damp, int pulled, int hour, int bell, int house) {
        need(loud, 1, 60);
        need(far, 0, 30);
        need(apart, 0, 9);
        need(cracks, 0, 3);
        need(damp, 0, 9);
        need(pulled, 0, 999);
        need(hour, 0, 23);
        need(bell, 0, 6);
        need(house, 0, 6);
        return byLaw(loud, far, apart, cracks, damp, pulled, hour, bell, house);
    }

    private World after(int n) {
        World w = now.copy();
        for (int i = 0; i < n; i++) {
            w.hour();
        }
        return w;
    }

    public int ahead(int n, int what) {
        need(n, 0, 99);
        need(what, 0, 2);
        World w = after(n);
        return new int[] {w.sum(), w.moody(), doneBits(w)}[what];
    }

    public int sleeps(int house) {
        there(house, houses.size());
        for (int n = 0; n <= 99; n++) {
            if (after(n).sum(house) == 0) {
                return n;
            }
        }
        return -1;
    }

    public int rouse(int house, int n) {
        there(house, houses.size());
        need(n, 0, 999);
        for (int many = 0; many <= 6; many++) {
            for (int bits = 0; bits < 64; bits++) {
                if (Integer.bitCount(bits) != many || (bits & now.speaking()) != bits) {
                    continue;
                }
                int sum = 0;
                for (int b = 0; b < now.bells.size(); b++) {
                    sum += (bits >> b & 1) * heardIn(now, b, house);
                }
                if (sum >= n) {
                    return bits;
                }
            }
        }
        return -1;
    }

    /** All ways, the first first; a way is the house of each bell, the number of houses for none. */
    private int[] bestWay() {
        int[][] heard = new int[now.bells.size()][houses.size()];
        for (int b = 0; b < heard.length; b++) {
            for (int h = 0; h < houses.size(); h++) {
                heard[b][h] = heardIn(now, b, h);
            }
        }
        int[] best = new int[heard.length + 1];
        best[heard.length] = -1;
        ways(heard, new int[heard.length + 1], 0, 0, best);
        return best;
    }

    private void ways(int[][] heard, int[] way, int bell, int used, int[] best) {
        int none = houses.size();
        if (bell == heard.length) {
            int sum = 0;
            for (int b = 0; b < heard.length; b++) {
                sum += way[b] == none ? 0 : heard[b][way[b]];
            }
            if (sum > best[bell]) {
                System.arraycopy(way, 0, best, 0, bell);
                best[bell] = sum;
            }
            return;
        }
        for (int h = 0; h <= none; h++) {
            if (h == none || now.bells.get(bell).speaks() && (used >> h & 1) == 0) {
                way[bell] = h;
                ways(heard, way, bell + 1, h == none ? used : used | 1 << h, best);
            }
        }
    }

    public int suit() {
        int[] way = bestWay();
        return way[way.length - 1];
    }

    public int suited(int bell) {
        there(bell, now.bells.size());
        int h = bestWay()[bell];
        return h == houses.size() ? -1 : h;
    }

    public int pulls(int deed, int what) {
        there(deed, deeds.size());
        need(what, 0, 1);
        for (int often = 0; often <= 30; often++) {
            if (often == 0 && isDone(now, deed)) {
                return what == 0 ? 0 : -1;
            }
            for (int b = 0; b < now.bells.size(); b++) {
                World w = now.copy();
                boolean can = true;
                for (int i = 0; i < often; i++) {
                    can &= doOne(w, "pull", b);
                }
                if (often > 0 && can && isDone(w, deed)) {
                    return what == 0 ? often : b;
                }
            }
        }
        return -1;
    }

    private List<Integer> pairs(Map<Integer, Integer> by) {
        List<Integer> found = new ArrayList<>();
        for (int mood = 0; mood < 10; mood++) {
            for (int loud = 1; loud <= 60; loud++) {
                boolean right = true;
                for (Map.Entry<Integer, Integer> line : by.entrySet()) {
                    right = right && heardOf(now, new Bell(mood, loud), 6, line.getKey()) == line.getValue();
                }
                if (right) {
                    found.add(100 * mood + loud);
                }
            }
        }
        return found;
    }

    public int cast(int what) {
        need(what, 0, 1);
        List<Integer> found = pairs(lines);
        return what == 0 ? found.size() : found.isEmpty() ? -1 : found.get(0);
    }

    public int ask(int what) {
        need(what, 0, 1);
        int best = -1;
        int least = -1;
        List<Integer> found = pairs(lines);
        for (int h = 0; h < houses.size(); h++) {
            if (lines.containsKey(h)) {
                continue;
            }
            Map<Integer, Integer> left = new HashMap<>();
            for (int pair : found) {
                left.merge(heardOf(now, new Bell(pair / 100, pair % 100), 6, h), 1, Integer::sum);
            }
            int worst = left.values().stream().mapToInt(Integer::intValue).max().orElse(0);
            if (best == -1 || worst < least) {
                best = h;
                least = worst;
            }
        }
        return what == 0 ? best : least;
    }

    private static final Map<Integer, List<String>> ORDERS = new HashMap<>();
    private static final Map<Integer, Map<String, Integer>> LONGS = new HashMap<>();

    private static List<String> orders(int n) {
        return ORDERS.computeIfAbsent(n, k -> {
            List<String> found = new ArrayList<>();
            orders("", "012345".substring(0, n), found);
            found.sort(null);
            return found;
        });
    }

    private static void orders(String start, String rest, List<String> found) {
        if (rest.isEmpty()) {
            found.add(start);
        }
        for (int i = 0; i < rest.length(); i++) {
            orders(start + rest.charAt(i), rest.substring(0, i) + rest.substring(i + 1), found);
        }
    }

    /** All rows by a change from this one, this one too. */
    private static List<String> changed(String row) {
        if (row.length() < 2) {
            return List.of(row);
        }
        List<String> found = new ArrayList<>();
        for (String rest : changed(row.substring(1))) {
            found.add(row.charAt(0) + rest);
        }
        for (String rest : changed(row.substring(2))) {
            found.add("" + row.charAt(1) + row.charAt(0) + rest);
        }
        return found;
    }

    private static Map<String, Integer> longs(int n) {
        return LONGS.computeIfAbsent(n, k -> {
            Map<String, Integer> found = new HashMap<>();
            ArrayDeque<String> queue = new ArrayDeque<>();
            queue.add(orders(n).get(0));
            found.put(orders(n).get(0), 0);
            while (!queue.isEmpty()) {
                String row = queue.poll();
                for (String other : changed(row)) {
                    if (found.putIfAbsent(other, found.get(row) + 1) == null) {
                        queue.add(other);
                    }
                }
            }
            return found;
        });
    }

    private String row(int n, int row) {
        need(n, 1, 6);
        need(row, 0, orders(n).size() - 1);
        return orders(n).get(row);
    }

    public int changes(int n, int row) {
        String order = row(n, row);
        return longs(n).get(order);
    }

    public int next(int n, int row) {
        String order = row(n, row);
        int goal = Math.max(0, longs(n).get(order) - 1);
        String least = null;
        for (String other : changed(order)) {
            if (longs(n).get(other) == goal && (least == null || other.compareTo(least) < 0)) {
                least = other;
            }
        }
        return orders(n).indexOf(least);
    }

    public int within(int n, int k) {
        need(n, 1, 6);
        need(k, 0, 15);
        return (int) longs(n).values().stream().filter(l -> l <= k).count();
    }

    public int place(int n, int row, int place) {
        String order = row(n, row);
        need(place, 0, n - 1);
        return order.charAt(place) - '0';
    }

    public int ringers(int v, int w, int what) {
        need(v, 0, 99);
        need(w, 0, 99);
        need(what, 0, 2);
        int[][] one = {{-1, w}, {v, 0}};
        List<int[]> found = new ArrayList<>();
        for (int a = 0; a < 2; a++) {
            for (int b = 0; b < 2; b++) {
                if (one[1 - a][b] <= one[a][b] && one[1 - b][a] <= one[b][a]) {
                    found.add(new int[] {10 * a + b, one[a][b] + one[b][a]});
                }
            }
        }
        return what == 0 ? found.size() : found.isEmpty() ? what == 1 ? -1 : 0 : found.get(0)[what - 1];
    }

    public long sounds(int n, int k, int q, int part) {
        need(n, 0, 12);
        need(k, 0, 12);
        need(q, 0, 16);
        need(part, 0, 1);
        BigInteger above = BigInteger.ZERO;
        for (int bits = 0; bits < 1 << n; bits++) {
            if (Integer.bitCount(bits) == k) {
                above = above.add(BigInteger.valueOf(q).pow(k).multiply(BigInteger.valueOf(16 - q).pow(n - k)));
            }
        }
        BigInteger below = BigInteger.valueOf(16).pow(n);
        BigInteger both = above.gcd(below);
        return (part == 0 ? above : below).divide(both).longValueExact();
    }

    public int metal(int bell, int bells, int n) {
        there(bell, now.bells.size());
        need(bells, 0, (1 << now.bells.size()) - 1);
        need(n, 0, 999);
        int bound = 0;
        while (bound < 100 && given(bells, bound + 1) <= n) {
            bound++;
        }
        return (bells >> bell & 1) == 0 ? 0 : Math.min(now.bells.get(bell).loud, bound);
    }

    private int given(int bits, int bound) {
        int sum = 0;
        for (int b = 0; b < now.bells.size(); b++) {
            sum += (bits >> b & 1) * Math.min(now.bells.get(b).loud, bound);
        }
        return sum;
    }

    public int loudest(int what) {
        need(what, 0, 1);
        int best = 0;
        for (int h = 1; h < houses.size(); h++) {
            best = now.sum(h) > now.sum(best) ? h : best;
        }
        if (houses.isEmpty() || now.sum(best) == 0) {
            return -1;
        }
        return what == 0 ? best : now.sum(best);
    }

    public int deaf(int bell) {
        there(bell, now.bells.size());
        int bits = 0;
        for (int h = 0; h < houses.size(); h++) {
            bits |= heardIn(now, bell, h) == 0 ? 1 << h : 0;
        }
        return bits;
    }

    public int kin(int mood) {
        need(mood, 0, 9);
        int bits = 0;
        for (int b = 0; b < now.bells.size(); b++) {
            bits |= now.bells.get(b).speaks() && now.bells.get(b).mood == mood ? 1 << b : 0;
        }
        return bits;
    }

    private int seed;

    private int drawn(int by) {
        seed = (int) (seed * 1103515245L + 12345L);
        return (int) ((seed & 0x7fff0000L) >> 16) % by;
    }

    /** What century answers for 0 to 3, and the mood of each house behind. */
    private int[] lived(int from, int hours, int q) {
        World w = now.copy();
        seed = from;
        int pulled = 0;
        for (int i = 0; i < hours; i++) {
            if (!w.bells.isEmpty()) {
                int b = drawn(w.bells.size());
                pulled += doOne(w, "pull", b) ? 1 : 0;
                if (drawn(16) < q) {
                    w.bells.get(b).stolen = !w.bells.get(b).stolen;
                }
                if (drawn(16) < q) {
                    w.damp = drawn(10);
                }
            }
            w.hour();
        }
        return new int[] {w.sum(), w.speaking(), pulled, w.moody()};
    }

    public int century(int from, int hours, int q, int what) {
        need(hours, 1, 96);
        need(q, 0, 16);
        need(what, 0, 3);
        return lived(from, hours, q)[what];
    }

    public int span(int from, int many, int hours, int q, int what, int house) {
        need(many, 1, 20);
        need(hours, 1, 96);
        need(q, 0, 16);
        need(what, 0, 2);
        need(house, 0, houses.size() - 1);
        int fewest = 1000;
        int most = -1;
        int moody = 0;
        for (int i = 0; i < many; i++) {
            int[] end = lived(from + i, hours, q);
            fewest = Math.min(fewest, end[2]);
            most = Math.max(most, end[2]);
            moody += end[3] >> house & 1;
        }
        return new int[] {fewest, most, moody}[what];
    }

    public int image() {
        if (images.size() == 3) {
            return -1;
        }
        List<World> kept = new ArrayList<>();
        for (World w : works) {
            kept.add(w.copy());
        }
        images.add(new Image(now.copy(), kept));
        return images.size();
    }

    public int restore() {
        if (images.isEmpty()) {
            return -1;
        }
        Image latest = images.remove(images.size() - 1);
        now = latest.world;
        works = latest.works;
        refused = 0;
        return images.size();
    }

    public int status(int what) {
        return what == 0 ? noSuch : what == 1 ? wrong : -1;
    }

    public int count(int what) {
        return what == 0 ? images.size() : what == 1 ? tape.length() : what == 2 ? works.size() : -1;
    }

    private void need(int value, int least, int most) {
        if (value < least || value > most) {
            wrong++;
            throw new IllegalArgumentException();
        }
    }

    private void there(int number, int many) {
        if (number < 0 || number >= many) {
            noSuch++;
            throw new NoSuchElementException();
        }
    }
}
