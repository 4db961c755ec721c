/**
 * The bounds of what is asked, sentence by sentence: hours ahead, ROUSE, SUIT, PULLS, CAST, ASK,
 * CHANGES, RINGERS, SOUNDS, METAL, CENTURIES, refusals counted. The names of the parts are the
 * document's own words. Which arguments are refused stands in ArgumentTests.
 */
public final class AskBoundTests {
    private static final Check c = new Check();

    public static void main(String[] args) {
        nothingChanged();
        speaks();
        ahead();
        sleeps();
        rouse();
        suit();
        suitAlike();
        pulls();
        cast();
        ask();
        longAndNext();
        within();
        place();
        ringers();
        sounds();
        metal();
        loudest();
        deafAndKin();
        centuryBounds();
        centuryDrawn();
        span();
        statusAndCount();
        c.end();
    }

    private static MoodBelfries town(String text, String law) {
        MoodBelfries x = new MoodBelfries();
        Check.district(x, text);
        c.due("law " + law, 1, () -> Check.law(x, law));
        return x;
    }

    private static void lawBy(MoodBelfries x, String law) {
        c.due("law " + law, 1, () -> Check.law(x, law));
    }

    private static void work(MoodBelfries x, String text, int done) {
        c.due("work " + text, done, () -> Check.work(x, text));
    }

    private static String times(String part, int n) {
        return part.repeat(n);
    }

    private static void nothingChanged() {
        c.part("Asked, nothing stays changed");
        MoodBelfries x = TextBoundTests.used();
        Check.law(x, "1 ?");
        x.ahead(99, 0);
        x.sleeps(0);
        x.rouse(1, 50);
        x.suit();
        x.suited(1);
        x.pulls(0, 0);
        x.pulls(1, 1);
        x.cast(0);
        x.ask(1);
        x.changes(6, 719);
        x.next(6, 719);
        x.within(5, 3);
        x.place(6, 100, 5);
        x.ringers(1, 2, 0);
        x.sounds(12, 6, 8, 0);
        x.metal(0, 3, 40);
        x.loudest(0);
        x.deaf(0);
        x.kin(3);
        x.century(5, 96, 16, 0);
        x.span(5, 20, 96, 16, 2, 1);
        c.due("the fault", 2, () -> x.fault());
        c.same("asked", Picture.allOf(x), Picture.allOf(TextBoundTests.used()));
    }

    private static void speaks() {
        c.part("A BELL SPEAKS, if it is neither gagged nor stolen");
        String[] steps = {"", "gag 0;", "steal 0;", "gag 0;steal 0;"};
        int[] done = {0, 1, 1, 2};
        for (int i = 0; i < 4; i++) {
            MoodBelfries x = town("bell 3 9;house 0 3;deed 0 3 5;", "5");
            work(x, steps[i], done[i]);
            boolean speaks = i == 0;
            c.due("told(5)", speaks ? 1 : 0, () -> x.told(5));
            c.due("kin", speaks ? 1 : 0, () -> x.kin(3));
            c.due("rouse", speaks ? 1 : -1, () -> x.rouse(0, 5));
            c.due("rouse for none", 0, () -> x.rouse(0, 0));
            c.due("suit", speaks ? 5 : 0, () -> x.suit());
            c.due("suited", speaks ? 0 : -1, () -> x.suited(0));
            c.due("pulls", speaks ? 1 : -1, () -> x.pulls(0, 0));
            c.due("pulls by", speaks ? 0 : -1, () -> x.pulls(0, 1));
            c.due("heard, gagged, stolen or not", 5, () -> x.heard(0, 0));
            c.due("deaf, gagged, stolen or not", 0, () -> x.deaf(0));
            c.due("metal, gagged, stolen or not", 7, () -> x.metal(0, 1, 7));
        }
    }

    private static void ahead() {
        c.part("In n HOURS (0 to 99), nothing else being done");
        MoodBelfries x = town("bell 3 9;house 0 3;house 0 3;deed 0 3 74;deed 1 3 98;deed 1 3 99;", "99 - house");
        work(x, "pull 0;", 1);
        c.due("0: now", 99 + 98, () -> x.ahead(0, 0));
        c.due("0: both houses", 3, () -> x.ahead(0, 1));
        c.due("0: 99 of 74, 98 of 98, 98 of 99", 3, () -> x.ahead(0, 2));
        c.due("1", 74 + 73, () -> x.ahead(1, 0));
        c.due("1: 74 of 74, 73 of 98", 1, () -> x.ahead(1, 2));
        c.due("2: 55 of 74", 0, () -> x.ahead(2, 2));
        c.due("99", 0, () -> x.ahead(99, 0));
        c.due("99", 0, () -> x.ahead(99, 1));
        MoodBelfries y = town("bell 3 9;house 0 3;house 0 3;", "house + 1");
        work(y, "pull 0;", 1);
        c.due("1 and 2", 3, () -> y.ahead(0, 1));
        c.due("0 and 1: bits", 2, () -> y.ahead(1, 1));
        c.due("0 and 1", 1, () -> y.ahead(1, 0));
        c.due("none", 0, () -> y.ahead(2, 1));
        MoodBelfries full = town("bell 3 9;" + times("house 0 3;", 7) + times("deed 6 3 1;", 8), "99");
        work(full, "again 11[pull 0;];", 11);
        c.due("seven houses full", 6993, () -> full.ahead(0, 0));
        c.due("all bits", 127, () -> full.ahead(20, 1));
        c.due("all deeds", 255, () -> full.ahead(20, 2));
        c.due("1 each", 7, () -> full.ahead(20, 0));
        c.due("none", 0, () -> full.ahead(21, 1));
        c.due("none", 0, () -> full.ahead(21, 2));
    }

    private static void sleeps() {
        c.part("In how many HOURS (0 to 99) there is no TEMPER of any MOOD in a HOUSE");
        int[] heard = {0, 1, 2, 3, 4, 5, 8, 99};
        int[] hours = {0, 1, 2, 3, 3, 4, 5, 13};
        for (int i = 0; i < heard.length; i++) {
            int due = hours[i];
            MoodBelfries x = town("bell 3 9;bell 9 1;house 0 3;", heard[i] + " * (1 - bell)");
            work(x, "pull 0;pull 1;", 2);
            c.due("sleeps by " + heard[i], due, () -> x.sleeps(0));
        }
        MoodBelfries x = town("bell 3 9;bell 0 1;house 0 3;house 0 3;", "least[99, 90 + bell * 9] * house");
        work(x, "again 12[pull 1;];pull 0;", 13);
        c.due("999 and 90", 21, () -> x.sleeps(1));
        c.due("another house", 0, () -> x.sleeps(0));
        c.due("one hour ahead of that", 2, () -> x.ahead(20, 1));
        c.due("by the last mood", 21, () -> {
            MoodBelfries y = town("bell 9 1;house 0 3;", "99");
            Check.work(y, "again 12[pull 0;];");
            return y.sleeps(0);
        });
    }

    private static void rouse() {
        c.part("the fewest BELLS that SPEAK whose HEARD there as now, together, are n or more");
        MoodBelfries x = town(times("bell 0 9;", 6) + "house 0 0;", "99");
        int[] most = {0, 99, 198, 297, 396, 495, 594};
        int[] bits = {0, 1, 3, 7, 15, 31, 63};
        for (int i = 0; i <= 6; i++) {
            int n = most[i];
            int b = bits[i];
            int more = i == 6 ? -1 : bits[i + 1];
            c.due("rouse(0, " + n + ")", b, () -> x.rouse(0, n));
            c.due("one more", more, () -> x.rouse(0, n + 1));
        }
        c.due("999", -1, () -> x.rouse(0, 999));

        c.part("of as few the least bits; NONE");
        MoodBelfries y = town("bell 0 9;bell 0 9;bell 0 9;bell 0 9;house 0 0;", "5 + bell * 5");
        c.due("5, 10, 15, 20: the first", 1, () -> y.rouse(0, 5));
        c.due("one of 20 is fewer than two", 8, () -> y.rouse(0, 20));
        c.due("10 and 15 have less bits than 5 and 20", 6, () -> y.rouse(0, 25));
        c.due("10 and 15 are 25", 6, () -> y.rouse(0, 21));
        c.due("10 and 20", 10, () -> y.rouse(0, 26));
        c.due("10 and 20", 10, () -> y.rouse(0, 30));
        c.due("15 and 20", 12, () -> y.rouse(0, 31));
        c.due("15 and 20 are fewer than three", 12, () -> y.rouse(0, 35));
        c.due("5 and 15 and 20", 13, () -> y.rouse(0, 36));
        work(y, "gag 0;steal 3;", 2);
        c.due("10 and 15", 6, () -> y.rouse(0, 25));
        c.due("not to be had", -1, () -> y.rouse(0, 26));
        MoodBelfries none = town("house 0 0;", "99");
        c.due("no bells, none needed", 0, () -> none.rouse(0, 0));
        c.due("no bells", -1, () -> none.rouse(0, 1));
        c.due("nothing heard, none needed", 0, () -> town("bell 0 1;house 0 0;", "0").rouse(0, 0));
        c.due("nothing heard", -1, () -> town("bell 0 1;house 0 0;", "0").rouse(0, 1));
    }

    private static void suit() {
        c.part("that by which HEARD together (as now) is most");
        c.due("no bells, no houses", 0, () -> new MoodBelfries().suit());
        c.due("no houses", 0, () -> town("bell 0 1;", "9").suit());
        c.due("no bells", 0, () -> town("house 0 0;", "9").suit());
        c.due("nothing heard", 0, () -> town("bell 0 1;house 0 0;", "0 - 9").suit());
        c.due("six bells, seven houses", 594, () -> town(times("bell 0 1;", 6) + times("house 0 0;", 7), "99").suit());
        c.due("six bells, one house", 15, () -> town(times("bell 0 1;", 6) + "house 0 0;", "10 + bell").suit());
        c.due("one bell, seven houses", 16, () -> town("bell 0 1;" + times("house 0 0;", 7), "10 + house").suit());
        MoodBelfries x = town("bell 0 1;bell 0 1;house 0 0;house 0 0;", "10 - bell * 2 - house * 6 + bell * house * 3");
        // bell 0: 10, 4; bell 1: 8, 5: 10 + 5 is more than 8 + 4.
        c.due("not by the loudest alone", 15, () -> x.suit());
        MoodBelfries y = town("bell 0 1;bell 0 1;house 0 0;house 0 0;", "10 - bell * 1 - house * 1 - bell * house * 8");
        // bell 0: 10, 9; bell 1: 9, 0: 9 + 9 is more than 10 + 0.
        c.due("the loudest is left", 18, () -> y.suit());
        c.due("bell 0", 1, () -> y.suited(0));
        c.due("bell 1", 0, () -> y.suited(1));
    }

    private static void suitAlike() {
        c.part("of alike ways the first (BELL by BELL the least HOUSE, none last)");
        MoodBelfries x = town("bell 0 1;bell 0 1;bell 0 1;house 0 0;house 0 0;", "7");
        c.due("bell 0", 0, () -> x.suited(0));
        c.due("bell 1", 1, () -> x.suited(1));
        c.due("none left", -1, () -> x.suited(2));
        lawBy(x, "0");
        c.due("nothing heard: bell 0", 0, () -> x.suited(0));
        c.due("nothing heard: bell 1", 1, () -> x.suited(1));
        c.due("nothing heard: none left", -1, () -> x.suited(2));
        lawBy(x, "bell / 2 * 5");
        c.due("5 for bell 2, in any house", 5, () -> x.suit());
        c.due("bell 0", 0, () -> x.suited(0));
        c.due("bell 1 must leave one", -1, () -> x.suited(1));
        c.due("bell 2", 1, () -> x.suited(2));
        lawBy(x, "bell / 2 * (1 - house) * 5");
        c.due("bell 0 leaves house 0", 1, () -> x.suited(0));
        c.due("none left", -1, () -> x.suited(1));
        c.due("bell 2 in house 0", 0, () -> x.suited(2));
        lawBy(x, "7");
        work(x, "steal 0;", 1);
        c.due("stolen", -1, () -> x.suited(0));
        c.due("bell 1", 0, () -> x.suited(1));
        c.due("bell 2", 1, () -> x.suited(2));
        MoodBelfries none = town("bell 0 1;", "7");
        c.due("no houses", -1, () -> none.suited(0));
    }

    private static void pulls() {
        c.part("how often one BELL that SPEAKS must be pulled now, so that it is DONE, 0 to 30");
        // 30 pulls of 6 are 180, of 7 210.
        MoodBelfries x = town("bell 3 9;bell 4 9;bell 3 9;house 0 0;deed 0 3 180;deed 0 3 181;deed 0 3 1;deed 0 5 1;", "6");
        c.due("30 are enough", 30, () -> x.pulls(0, 0));
        c.due("by the first", 0, () -> x.pulls(0, 1));
        c.due("31 are not", -1, () -> x.pulls(1, 0));
        c.due("31 are not", -1, () -> x.pulls(1, 1));
        c.due("one", 1, () -> x.pulls(2, 0));
        c.due("no bell of its mood", -1, () -> x.pulls(3, 0));
        c.due("no bell of its mood", -1, () -> x.pulls(3, 1));
        lawBy(x, "6 + bell / 2");
        c.due("26 of 7 are 182", 26, () -> x.pulls(0, 0));
        c.due("by the louder one", 2, () -> x.pulls(0, 1));
        c.due("26 for 181, too", 26, () -> x.pulls(1, 0));
        c.due("alike: the first", 0, () -> x.pulls(2, 1));
        work(x, "steal 2;", 1);
        c.due("the other one", 30, () -> x.pulls(0, 0));
        work(x, "pull 0;", 1);
        c.due("as now", 29, () -> x.pulls(0, 0));
        c.due("as now", 30, () -> x.pulls(1, 0));
        c.due("DONE: 0", 0, () -> x.pulls(2, 0));
        c.due("DONE: by none", -1, () -> x.pulls(2, 1));
        work(x, "gag 0;", 1);
        c.due("none speaks", -1, () -> x.pulls(0, 0));
        c.due("DONE though none speaks", 0, () -> x.pulls(2, 0));
        lawBy(x, "0");
        c.due("nothing heard", -1, () -> town("bell 0 1;house 0 0;deed 0 0 1;", "0").pulls(0, 0));
        MoodBelfries y = town("bell 0 1;house 0 0;deed 0 0 200;", "pulled");
        c.due("0 and 1 and .. 20 are 210", 21, () -> y.pulls(0, 0));
        MoodBelfries z = town("bell 0 1;house 0 0;deed 0 0 7;", "pulled / 29 * 7");
        c.due("by the 30th alone", 30, () -> z.pulls(0, 0));
        lawBy(z, "pulled / 30 * 7");
        c.due("by the 31st alone", -1, () -> z.pulls(0, 0));
        MoodBelfries w = new MoodBelfries();
        for (int i = 0; i < 2; i++) {
            Check.district(w, "bell 0 60;house 0 0;deed 0 0 1;");
        }
        c.due("by its one bell", 1, () -> w.pulls(0, 0));
        for (int i = 0; i < 2; i++) {
            Check.district(w, "house 0 0;deed 0 0 1;");
            c.due("by none of an earlier district", -1, () -> w.pulls(0, 0));
            c.due("by none of an earlier district", -1, () -> w.pulls(0, 1));
        }
    }

    private static void book(MoodBelfries x, String text, int lines) {
        c.due("book " + text, lines, () -> Check.book(x, text));
    }

    private static void cast() {
        c.part("pairs of a MOOD (0 to 9) and LOUD (1 to 60): how many, the first; NONE");
        MoodBelfries x = town("bell 3 9;house 0 0;", "loud + apart");
        c.due("without lines", 600, () -> x.cast(0));
        c.due("the first of all", 1, () -> x.cast(1));
        book(x, "0 1;", 1);
        c.due("mood 0, loud 1 alone", 1, () -> x.cast(0));
        c.due("mood 0, loud 1", 1, () -> x.cast(1));
        book(x, "0 69;", 1);
        c.due("mood 9, loud 60 alone", 1, () -> x.cast(0));
        c.due("mood 9, loud 60", 960, () -> x.cast(1));
        book(x, "0 0;", 1);
        c.due("none below", 0, () -> x.cast(0));
        c.due("none below", -1, () -> x.cast(1));
        book(x, "0 70;", 1);
        c.due("none above", 0, () -> x.cast(0));
        c.due("none above", -1, () -> x.cast(1));
        book(x, "0 60;", 1);
        c.due("60 and 0, 59 and 1, .., 51 and 9", 10, () -> x.cast(0));
        c.due("by MOOD first", 60, () -> x.cast(1));
        lawBy(x, "loud * 2 - apart * 100");
        book(x, "0 99;", 1);
        c.due("99 at most: from 50 on", 11, () -> x.cast(0));
        c.due("then by LOUD", 50, () -> x.cast(1));
        book(x, "0 0;", 1);
        c.due("0 at least", 9 * 60 - 10, () -> x.cast(0));
        c.due("mood 1", 101, () -> x.cast(1));

        c.part("were a BELL of these pulled now (number 6, without cracks, never pulled)");
        MoodBelfries y = town("bell 3 9;house 0 0;house 5 0;", "bell * 10 + cracks + pulled + damp + hour");
        work(y, "crack 0;pull 0;damp 7;hour;", 4);
        book(y, "0 68;1 68;", 2);
        c.due("60 and 7 and 1", 600, () -> y.cast(0));
        c.due("bell 0: one crack, one pull, 7 and 1", 10, () -> y.heard(0, 0));
        c.due("60 and 7 and 1, whatever was asked ahead", 600, () -> y.cast(0));
        book(y, "0 68;1 67;", 2);
        c.due("all lines must be right", 0, () -> y.cast(0));
        book(y, "0 67;1 68;", 2);
        c.due("the first, too", 0, () -> y.cast(0));
    }

    private static void ask() {
        c.part("the HOUSE in no line by which fewest such pairs are left at the worst, the first");
        MoodBelfries x = town("house 0 0;house 0 0;house 0 0;", "loud * house");
        // house 0: all 600 alike; house 1: 10 each; house 2: from 50 on 99, so 11 * 10.
        c.due("house 1", 1, () -> x.ask(0));
        c.due("10", 10, () -> x.ask(1));
        book(x, "1 55;", 1);
        c.due("alike: the first", 0, () -> x.ask(0));
        c.due("10", 10, () -> x.ask(1));
        book(x, "0 0;", 1);
        c.due("in a line: not that", 1, () -> x.ask(0));
        book(x, "0 0;1 7;", 2);
        c.due("the last", 2, () -> x.ask(0));
        book(x, "0 0;1 61;", 2);
        c.due("no pairs are left", 2, () -> x.ask(0));
        c.due("0", 0, () -> x.ask(1));

        c.part("NONE both: all are in lines, or there are none");
        book(x, "0 0;1 7;2 14;", 3);
        c.due("all in lines", -1, () -> x.ask(0));
        c.due("all in lines", -1, () -> x.ask(1));
        MoodBelfries none = new MoodBelfries();
        c.due("no houses", -1, () -> none.ask(0));
        c.due("no houses", -1, () -> none.ask(1));
        MoodBelfries seven = town(times("house 0 0;", 7), "loud * (house / 6)");
        c.due("the seventh", 6, () -> seven.ask(0));
        c.due("10", 10, () -> seven.ask(1));
        lawBy(seven, "1");
        c.due("alike: the first", 0, () -> seven.ask(0));
        c.due("all 600", 600, () -> seven.ask(1));
    }

    private static void longAndNext() {
        c.part("LONG of a ROW (0 to how many there are less 1) of n BELLS (1 to 6)");
        MoodBelfries x = new MoodBelfries();
        int[] last = {0, 0, 1, 5, 23, 119, 719};
        int[] turned = {0, 0, 1, 3, 4, 5, 6};
        for (int n = 1; n <= 6; n++) {
            int b = n;
            c.due("ROUNDS of " + b, 0, () -> x.changes(b, 0));
            c.due("the last ROW of " + b, turned[b], () -> x.changes(b, last[b]));
            c.wrong("one more of " + b, () -> x.changes(b, last[b] + 1));
            c.due("NEXT of ROUNDS: itself", 0, () -> x.next(b, 0));
            c.wrong("NEXT of one more", () -> x.next(b, last[b] + 1));
        }

        c.part("any BELLS (one at least) that stand side by side in twos change places, none in two twos");
        c.due("two bells", 0, () -> x.next(2, 1));
        // 1032 is ROW 7 of four, 0132 ROW 1, 1023 ROW 6.
        c.due("two twos are one CHANGE", 1, () -> x.changes(4, 7));
        c.due("NEXT is ROUNDS at once", 0, () -> x.next(4, 7));
        // 103254 is ROW 120 + 6 + 1 of six; 120 is ROW 3 of three, which no one CHANGE makes.
        c.due("three twos are one CHANGE", 1, () -> x.changes(6, 127));
        c.due("a bell in two twos is not", 2, () -> x.changes(3, 3));
        c.due("of the least number", 1, () -> x.next(3, 4));
        c.due("of the least number", 2, () -> x.next(3, 3));
        c.due("of two that are nearer the least", 3, () -> x.next(3, 5));
    }

    private static void within() {
        c.part("how many ROWS have LONG of k, or less (0 to 15)");
        MoodBelfries x = new MoodBelfries();
        int[] three = {1, 3, 5, 6, 6};
        for (int k = 0; k < three.length; k++) {
            int most = k;
            c.due("within(3, " + most + ")", three[k], () -> x.within(3, most));
        }
        int[] all = {1, 2, 6, 24, 120, 720};
        for (int n = 1; n <= 6; n++) {
            int b = n;
            c.due("only ROUNDS", 1, () -> x.within(b, 0));
            c.due("all", all[b - 1], () -> x.within(b, 15));
            c.due("all within n", all[b - 1], () -> x.within(b, b));
            int counted = 0;
            for (int row = 0; row < all[b - 1] && b < 6; row++) {
                counted += x.changes(b, row) < b ? 1 : 0;
            }
            int fewer = counted;
            if (b < 6) {
                c.due("within n less 1, one by one", fewer, () -> x.within(b, b - 1));
            }
        }
        c.due("not all six", 1, () -> x.within(6, 5) < 720 ? 1 : 0);
        c.due("of two", 1, () -> x.within(2, 0));
        c.due("of two", 2, () -> x.within(2, 1));
    }

    private static void place() {
        c.part("The BELL at a place (0 to n less 1); (place by place, the least BELL first)");
        MoodBelfries x = new MoodBelfries();
        int[] many = {0, 1, 2, 6, 24, 120, 720};
        for (int n = 1; n <= 6; n++) {
            for (int p = 0; p < n; p++) {
                int b = n;
                int at = p;
                c.due("ROUNDS", at, () -> x.place(b, 0, at));
                c.due("the last ROW", b - 1 - at, () -> x.place(b, many[b] - 1, at));
            }
            int b = n;
            c.wrong("place n", () -> x.place(b, 0, b));
            c.wrong("a ROW too many", () -> x.place(b, many[b], 0));
        }
        c.due("120 is the first that begins with 1", 0, () -> x.place(6, 119, 0));
        c.due("120 is the first that begins with 1", 1, () -> x.place(6, 120, 0));
        c.due("whatever BELLS there are", 5, () -> x.place(6, 0, 5));
    }

    private static void ringers() {
        c.part("RINGERS by v, w (0 to 99): neither would have more by the other thing");
        MoodBelfries x = new MoodBelfries();
        int[][] vw = {{0, 0}, {1, 0}, {0, 1}, {99, 0}, {0, 99}, {99, 99}, {1, 1}};
        for (int[] by : vw) {
            int v = by[0];
            int w = by[1];
            c.due("RESTS by " + v + ", " + w, w == 0 ? 3 : 2, () -> x.ringers(v, w, 0));
            c.due("the first: one rings, one listens", 1, () -> x.ringers(v, w, 1));
            c.due("together", v + w, () -> x.ringers(v, w, 2));
        }
    }

    private static void sounds(int n, int k, int q, long above, long below) {
        MoodBelfries x = new MoodBelfries();
        c.due("sounds(" + n + ", " + k + ", " + q + ", 0)", above, () -> x.sounds(n, k, q, 0));
        c.due("sounds(" + n + ", " + k + ", " + q + ", 1)", below, () -> x.sounds(n, k, q, 1));
    }

    private static void sounds() {
        c.part("SOUNDS of n (0 to 12), k (0 to 12), q (0 to 16), in least terms");
        sounds(0, 0, 0, 1, 1);
        sounds(0, 0, 16, 1, 1);
        sounds(0, 1, 8, 0, 1);
        sounds(0, 12, 16, 0, 1);
        sounds(12, 12, 16, 1, 1);
        sounds(12, 11, 16, 0, 1);
        sounds(12, 0, 16, 0, 1);
        sounds(12, 0, 0, 1, 1);
        sounds(12, 1, 0, 0, 1);
        sounds(11, 12, 8, 0, 1);
        sounds(11, 11, 8, 1, 2048);
        sounds(1, 1, 1, 1, 16);
        sounds(1, 0, 1, 15, 16);
        sounds(1, 1, 15, 15, 16);
        sounds(1, 1, 2, 1, 8);
        sounds(12, 6, 8, 231, 1024);
        sounds(12, 12, 15, 129746337890625L, 281474976710656L);
        sounds(12, 0, 1, 129746337890625L, 281474976710656L);
        sounds(12, 12, 1, 1, 281474976710656L);
        sounds(12, 6, 1, 2631234375L, 70368744177664L);
    }

    private static void metal(MoodBelfries x, int bells, int n, int... due) {
        for (int bell = 0; bell < due.length; bell++) {
            int b = bell;
            c.due("metal(" + b + ", " + bells + ", " + n + ")", due[b], () -> x.metal(b, bells, n));
        }
    }

    private static void metal() {
        c.part("no more than that each, no more than a bound, the greatest by which no more than n are given");
        MoodBelfries x = town("bell 0 5;bell 0 1;bell 0 60;", "9");
        metal(x, 7, 0, 0, 0, 0);
        metal(x, 7, 2, 0, 0, 0);
        metal(x, 7, 3, 1, 1, 1);
        metal(x, 7, 4, 1, 1, 1);
        metal(x, 7, 5, 2, 1, 2);
        metal(x, 7, 10, 4, 1, 4);
        metal(x, 7, 11, 5, 1, 5);
        metal(x, 7, 12, 5, 1, 6);
        metal(x, 7, 65, 5, 1, 59);
        metal(x, 7, 66, 5, 1, 60);
        metal(x, 7, 67, 5, 1, 60);
        metal(x, 7, 999, 5, 1, 60);

        c.part("among told BELLS (bits); (0, if it is none of them)");
        metal(x, 0, 999, 0, 0, 0);
        metal(x, 1, 999, 5, 0, 0);
        metal(x, 4, 59, 0, 0, 59);
        metal(x, 4, 60, 0, 0, 60);
        metal(x, 4, 61, 0, 0, 60);
        metal(x, 5, 9, 4, 0, 4);
        metal(x, 6, 7, 0, 1, 6);

        c.part("IllegalArgumentException: bits of no BELLS");
        c.wrong("bit 3", () -> x.metal(0, 8, 1));
        c.wrong("bit 3 among others", () -> x.metal(0, 15, 1));
        c.wrong("the highest bit", () -> x.metal(0, Integer.MIN_VALUE, 1));
        c.wrong("all bits", () -> x.metal(0, -1, 1));
        c.noSuch("no such BELL goes ahead", () -> x.metal(3, 8, 1000));
        MoodBelfries six = town(times("bell 0 60;", 6), "9");
        c.due("all six", 60, () -> six.metal(5, 63, 360));
        c.due("all six, one less", 59, () -> six.metal(5, 63, 359));
        c.wrong("bit 6", () -> six.metal(5, 64, 360));
    }

    private static void loudest() {
        c.part("of alike ones the first, how much (1); NONE both: there is none");
        MoodBelfries x = town("bell 0 1;bell 1 1;" + times("house 0 0;", 7), "most[0, house - 5] + bell * 0");
        c.due("no temper", -1, () -> x.loudest(0));
        c.due("no temper", -1, () -> x.loudest(1));
        work(x, "pull 0;", 1);
        c.due("1 in the last alone", 6, () -> x.loudest(0));
        c.due("1", 1, () -> x.loudest(1));
        lawBy(x, "1 - least[1, 6 - house]");
        work(x, "pull 1;", 1);
        c.due("all moods together", 2, () -> x.loudest(1));
        work(x, "hour;hour;hour;hour;", 4);
        c.due("gone", -1, () -> x.loudest(0));
        c.due("gone", -1, () -> x.loudest(1));
        MoodBelfries none = new MoodBelfries();
        c.due("no houses", -1, () -> none.loudest(0));
        c.due("no houses", -1, () -> none.loudest(1));
        MoodBelfries alike = town("bell 0 1;house 0 0;house 0 0;house 0 0;", "least[house, 1] * 5");
        work(alike, "pull 0;", 1);
        c.due("the first of alike ones", 1, () -> alike.loudest(0));
        c.due("how much", 5, () -> alike.loudest(1));
        lawBy(alike, "(2 - house) / 2 * 6");
        work(alike, "pull 0;", 1);
        c.due("the first of all", 0, () -> alike.loudest(0));
        c.due("how much", 6, () -> alike.loudest(1));
    }

    private static void deafAndKin() {
        c.part("HOUSES (bits) in which nothing of a BELL would be HEARD now");
        MoodBelfries x = town("bell 0 1;bell 9 1;" + times("house 0 0;", 7), "house - 3");
        c.due("below 0, 0, not 1", 15, () -> x.deaf(0));
        lawBy(x, "0");
        c.due("all seven", 127, () -> x.deaf(1));
        lawBy(x, "1");
        c.due("none", 0, () -> x.deaf(1));
        c.due("no houses", 0, () -> town("bell 0 1;", "0").deaf(0));

        c.part("BELLS (bits) of a MOOD (0 to 9) that SPEAK");
        MoodBelfries y = town("bell 0 1;bell 9 1;bell 0 1;bell 9 1;bell 0 1;bell 9 1;", "1");
        c.due("mood 0", 21, () -> y.kin(0));
        c.due("mood 9", 42, () -> y.kin(9));
        c.due("no bell of it", 0, () -> y.kin(5));
        work(y, "steal 5;gag 0;gag 1;gag 1;", 4);
        c.due("mood 0", 20, () -> y.kin(0));
        c.due("mood 9", 10, () -> y.kin(9));
    }

    private static void centuryBounds() {
        c.part("A CENTURY of so many HOURS (1 to 96), Q (0 to 16)");
        MoodBelfries x = town("bell 3 9;house 0 3;", "9");
        for (int seed : new int[] {Integer.MIN_VALUE, -1, 0, 1, Integer.MAX_VALUE}) {
            c.due("1 hour: one pull", 1, () -> x.century(seed, 1, 0, 2));
            c.due("1 hour: 9 less 2 less 1", 6, () -> x.century(seed, 1, 0, 0));
            c.due("96 hours, never stolen", 96, () -> x.century(seed, 96, 0, 2));
            c.due("Q 0: it speaks", 1, () -> x.century(seed, 96, 0, 1));
            // Q 16: stolen in the first hour, behind its pull, brought in the second, and so on.
            c.due("Q 16: stolen behind its pull", 0, () -> x.century(seed, 1, 16, 1));
            c.due("Q 16: one pull", 1, () -> x.century(seed, 2, 16, 2));
            c.due("Q 16: brought", 1, () -> x.century(seed, 2, 16, 1));
            c.due("Q 16: each second hour", 48, () -> x.century(seed, 96, 16, 2));
            c.due("Q 16: each second hour", 48, () -> x.century(seed, 95, 16, 2));
        }
        work(x, "gag 0;", 1);
        c.due("gagged: no pull can be done", 0, () -> x.century(0, 96, 0, 2));
        c.due("gagged: nor does it speak", 0, () -> x.century(0, 96, 16, 1));
        work(x, "gag 0;steal 0;", 2);
        c.due("stolen: brought in the first hour", 1, () -> x.century(0, 1, 16, 1));
        c.due("stolen: pulled in the second", 1, () -> x.century(0, 2, 16, 2));

        c.part("Without BELLS nothing is DRAWN, HOURS go by");
        MoodBelfries none = town("house 0 3;", "9");
        for (int what = 0; what < 4; what++) {
            int w = what;
            c.due("without bells " + w, 0, () -> none.century(5, 96, 16, w));
        }
        c.due("the hour stays", 0, () -> none.told(3));
    }

    private static int draw(int[] seed, int by) {
        seed[0] = seed[0] * 1103515245 + 12345;
        return (seed[0] >>> 16 & 32767) % by;
    }

    private static void centuryDrawn() {
        c.part("DRAWN by 16 below Q; one DRAWN more; (it wraps); its bits 16 to 30");
        // One hour tells each DRAWN by itself: the LAW hears the BELL, so TEMPER tells which it was.
        MoodBelfries x = town(times("bell 0 1;", 6) + "house 0 0;", "10 + bell * 10");
        for (int i = 0; i < 40; i++) {
            int seed = i * 987654321;
            int[] drawn = {seed};
            int bell = draw(drawn, 6);
            int first = draw(drawn, 16);
            int heard = 10 + bell * 10;
            c.due("which bell", heard - heard / 4 - 1, () -> x.century(seed, 1, 0, 0));
            c.due("below Q: not yet", 63, () -> x.century(seed, 1, first, 1));
            c.due("below Q: stolen", 63 ^ 1 << bell, () -> x.century(seed, 1, first + 1, 1));
        }

        c.part("damp of DRAWN by 10 (one DRAWN more; if it can)");
        MoodBelfries y = town("bell 0 1;house 0 0;damp 4;", "damp * 10");
        for (int i = 0; i < 40; i++) {
            int seed = i * 123456789 + 7;
            int[] drawn = {seed};
            int damp = 4;
            int temper = 0;
            boolean stolen = false;
            for (int hour = 0; hour < 3; hour++) {
                draw(drawn, 1);
                temper += stolen ? 0 : damp * 10;
                stolen ^= draw(drawn, 16) < 9;
                damp = draw(drawn, 16) < 9 ? draw(drawn, 10) : damp;
                temper = Math.max(0, temper - temper / 4 - 1);
            }
            int due = temper;
            c.due("three hours by " + seed, due, () -> y.century(seed, 3, 9, 0));
        }
    }

    private static void span() {
        c.part("Of so many SEEDS (1 to 20; seed, seed and 1, ..)");
        MoodBelfries x = town("bell 3 9;bell 4 9;house 0 3;house 0 3;", "house * 2");
        for (int seed : new int[] {Integer.MAX_VALUE - 9, Integer.MAX_VALUE, Integer.MIN_VALUE, -10, 0}) {
            for (int many : new int[] {1, 2, 20}) {
                int fewest = 1000;
                int most = 0;
                int moody = 0;
                for (int i = 0; i < many; i++) {
                    int pulls = x.century(seed + i, 3, 12, 2);
                    fewest = Math.min(fewest, pulls);
                    most = Math.max(most, pulls);
                    moody += x.century(seed + i, 3, 12, 3) >> 1 & 1;
                }
                int[] due = {fewest, most, moody};
                for (int what = 0; what < 3; what++) {
                    int w = what;
                    c.due("span " + seed + ", " + many, due[w], () -> x.span(seed, many, 3, 12, w, 1));
                }
                c.due("nothing is heard in house 0", 0, () -> x.span(seed, many, 3, 12, 2, 0));
            }
        }

        c.part("IllegalArgumentException: no such HOUSE, also for 0, 1");
        MoodBelfries y = town("bell 3 9;house 0 3;house 0 3;", "5");
        MoodBelfries none = town("bell 3 9;", "5");
        for (int what = 0; what < 3; what++) {
            int w = what;
            c.wrong("house 2 of two", () -> y.span(0, 1, 1, 0, w, 2));
            c.wrong("house -1", () -> y.span(0, 1, 1, 0, w, -1));
            c.due("house 1", 1, () -> y.span(0, 1, 1, 0, w, 1));
            c.wrong("no houses", () -> none.span(0, 1, 1, 0, w, 0));
        }
        c.due("counted as wrong", 6, () -> y.status(1));
        work(y, "gag 0;", 1);
        for (int what = 0; what < 3; what++) {
            int w = what;
            c.due("gagged: no pull at all", 0, () -> y.span(0, 20, 96, 0, w, 1));
            c.due("no bells: no pull at all", 0, () -> town("house 0 0;", "5").span(0, 20, 96, 16, w, 0));
        }
        c.due("not as missing", 0, () -> y.status(0));
    }

    private static void statusAndCount() {
        c.part("How many calls were refused: 0 NoSuchElementException, 1 IllegalArgumentException; NONE for others");
        MoodBelfries x = TextBoundTests.used();
        for (int what : new int[] {Integer.MIN_VALUE, -1, 2, 3, Integer.MAX_VALUE}) {
            c.due("status(" + what + ")", -1, () -> x.status(what));
        }
        c.due("none yet", 0, () -> x.status(0));
        c.due("none yet", 0, () -> x.status(1));
        c.noSuch("both wrong: ahead of others", () -> x.bell(2, 6));
        c.noSuch("both missing: once", () -> x.heard(2, 2));
        c.due("two", 2, () -> x.status(0));
        c.due("none", 0, () -> x.status(1));
        c.wrong("three wrong: once", () -> x.ringers(100, 100, 100));
        c.due("one", 1, () -> x.status(1));
        x.feed(0, 0, 0, 0, 0);
        c.due("a fault is no refusal", -9, () -> x.work(20));
        c.due("nor -1", -1, () -> x.rouse(0, 999));
        for (int i = 0; i < 3; i++) {
            x.image();
        }
        c.due("nor a fourth image", -1, () -> x.image());
        c.due("one", 1, () -> x.status(1));

        c.part("(No IMAGE keeps it.)");
        c.wrong("told", () -> x.told(12));
        x.restore();
        c.due("two", 2, () -> x.status(0));
        c.due("two", 2, () -> x.status(1));
        x.undo();
        c.due("nor does undo", 2, () -> x.status(1));
        x.district(0);
        c.due("nor a district", 2, () -> x.status(0));
        c.due("nor a district", 2, () -> x.status(1));

        c.part("0 IMAGES, 1 bytes of the TAPE, 2 WORKS that can be undone; NONE for others");
        MoodBelfries y = TextBoundTests.used();
        c.due("images", 1, () -> y.count(0));
        c.due("bytes", 0, () -> y.count(1));
        c.due("works", 2, () -> y.count(2));
        y.feed(0, 0, 0, 0, 0);
        c.due("bytes", 20, () -> y.count(1));
        for (int what : new int[] {Integer.MIN_VALUE, -1, 3, 4, Integer.MAX_VALUE}) {
            c.due("count(" + what + ")", -1, () -> y.count(what));
        }
    }
}
