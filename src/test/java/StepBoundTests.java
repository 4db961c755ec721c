/**
 * The bounds of what is done, sentence by sentence: STEPS and their refusals, TEMPER, HOURS, what a
 * LAW makes of its values, WORKS that can be undone, IMAGES. The names of the parts are the
 * document's own words.
 */
public final class StepBoundTests {
    private static final Check c = new Check();
    private static final String TOWN = "bell 3 30;bell 5 20;house 4 3;house 10 6;deed 0 3 20;deed 1 5 9;damp 3;";

    public static void main(String[] args) {
        atFirst();
        refusedChangesNothing();
        stepsBegun();
        pullBounds();
        pullAhead();
        crackBounds();
        gagAndSteal();
        dampRefused();
        hourRefused();
        hourLess();
        moodBounds();
        deedBounds();
        heardBounds();
        lawWraps();
        lawByZero();
        lawKnows();
        worksFull();
        undoBounds();
        imageBounds();
        refusedSteps();
        newDistrict();
        c.end();
    }

    private static MoodBelfries town() {
        return town(TOWN);
    }

    private static MoodBelfries town(String text) {
        MoodBelfries x = new MoodBelfries();
        Check.district(x, text);
        return x;
    }

    private static MoodBelfries town(String text, String law) {
        MoodBelfries x = town(text);
        c.due("law " + law, 1, () -> Check.law(x, law));
        return x;
    }

    private static String times(String part, int n) {
        return part.repeat(n);
    }

    /** HOURS by WORKS that do 199 each at most, undone by nothing: an image keeps room for others. */
    private static void toHour(MoodBelfries x, int hour) {
        for (int left = hour - x.told(3); left > 0; left -= 150) {
            int n = Math.min(left, 150);
            Check.work(x, "again " + n / 5 + "[" + times("hour;", 5) + "];" + times("hour;", n % 5));
        }
        c.due("the hour", hour, () -> x.told(3));
    }

    private static void atFirst() {
        c.part("It is HOUR 0 at first; no BELL was pulled, is cracked, gagged, stolen; no TEMPER");
        MoodBelfries x = town();
        c.due("hour", 0, () -> x.told(3));
        c.due("pulls", 0, () -> x.told(11));
        c.due("speak", 3, () -> x.told(5));
        c.due("stolen", 0, () -> x.told(6));
        c.due("deeds", 0, () -> x.told(7));
        c.due("temper", 0, () -> x.told(8));
        for (int b = 0; b < 2; b++) {
            for (int what = 2; what <= 5; what++) {
                int bell = b;
                int w = what;
                c.due("bell(" + bell + ", " + w + ")", 0, () -> x.bell(bell, w));
            }
        }
        for (int h = 0; h < 2; h++) {
            int house = h;
            c.due("no mood", -1, () -> x.house(house, 2));
            c.due("no temper", 0, () -> x.house(house, 3));
        }
    }

    /** Behind these steps the one that follows is refused, and a twin without it is as this one. */
    private static void refused(String ahead, String step) {
        MoodBelfries x = town();
        MoodBelfries y = town();
        Check.work(x, "pull 0;pull 1;" + ahead);
        Check.work(y, "pull 0;pull 1;" + ahead);
        c.due(step + " behind " + ahead, 0, () -> Check.work(x, step));
        c.due("refused", 1, () -> x.told(10));
        c.due("an empty one", 0, () -> Check.work(y, ""));
        c.due("refused", 0, () -> y.told(10));
        Check.work(x, "");
        Check.work(y, "");
        c.same(step + " behind " + ahead, Picture.of(x), Picture.of(y));
    }

    private static void done(String ahead, String step) {
        MoodBelfries x = town();
        Check.work(x, "pull 0;pull 1;" + ahead);
        c.due(step + " behind " + ahead, 1, () -> Check.work(x, step));
        c.due("none refused", 0, () -> x.told(10));
    }

    private static void refusedChangesNothing() {
        c.part("one that can't be done is REFUSED, and changes nothing");
        refused("gag 0;", "pull 0;");
        refused("steal 0;", "pull 0;");
        refused("gag 0;steal 0;", "pull 0;");
        refused("gag 0;steal 0;bring 0;", "pull 0;");
        done("gag 1;steal 1;", "pull 0;");
        done("gag 0;gag 0;", "pull 0;");
        done("steal 0;bring 0;", "pull 0;");
        refused("steal 0;", "crack 0;");
        refused("crack 0;crack 0;crack 0;", "crack 0;");
        done("crack 0;crack 0;", "crack 0;");
        done("crack 1;crack 1;crack 1;", "crack 0;");
        done("gag 0;", "crack 0;");
        refused("steal 0;", "gag 0;");
        refused("gag 0;steal 0;", "gag 0;");
        done("steal 1;", "gag 0;");
        refused("steal 0;", "steal 0;");
        done("gag 0;", "steal 0;");
        done("steal 1;", "steal 0;");
        refused("", "bring 0;");
        refused("steal 0;bring 0;", "bring 0;");
        refused("steal 1;", "bring 0;");
        done("steal 0;", "bring 0;");
        refused("", "damp 3;");
        refused("damp 9;", "damp 9;");
        done("damp 9;", "damp 3;");
    }

    private static void begun(String text, int done, int refused) {
        MoodBelfries x = town("bell 0 1;house 0 0;");
        c.due(text, done, () -> Check.work(x, text));
        c.due("refused by " + text, refused, () -> x.told(10));
    }

    private static void stepsBegun() {
        c.part("200 STEPS at most are begun by one WORK (an again, too; REFUSED ones, too)");
        // One again begun, then what is in it: 1 + 198, 1 + 199, 1 + 200.
        begun("again 33[" + times("hour;", 6) + "];", 198, 0);
        begun("again 33[" + times("hour;", 6) + "];hour;", 199, 0);
        begun("again 33[" + times("hour;", 6) + "];hour;hour;", 199, 0);
        begun("again 50[" + times("hour;", 4) + "];", 199, 0);
        begun("again 60[" + times("hour;", 4) + "];", 199, 0);
        begun("again 33[" + times("bring 0;", 6) + "];", 0, 198);
        begun("again 33[" + times("bring 0;", 6) + "];bring 0;hour;", 0, 199);
        begun("again 33[" + times("bring 0;", 6) + "];bring 0;", 0, 199);
        begun("again 33[" + times("hour;", 6) + "];bring 0;hour;", 198, 1);
        begun("again 33[" + times("hour;", 6) + "];again 9[];hour;", 198, 0);
        begun("again 33[" + times("hour;", 6) + "];again 9[hour;];hour;", 198, 0);
        begun("again 32[" + times("hour;", 6) + "];" + times("hour;", 6) + "again 9[hour;];hour;", 198, 0);
        begun("again 32[" + times("hour;", 6) + "];" + times("hour;", 5) + "again 9[hour;];hour;", 198, 0);

        c.part("an again, too, each time it is come to");
        // 1 + 60 * (1 + 0) begun without any step done, then so many of each.
        begun("again 60[again 0[];];hour;", 1, 0);
        begun("again 60[again 0[];];again 60[again 0[];];again 60[again 0[];];again 16[hour;];", 16, 0);
        begun("again 60[again 0[];];again 60[again 0[];];again 60[again 0[];];again 15[hour;];hour;hour;", 16, 0);
        begun("again 60[again 60[];];again 60[again 60[hour;];];hour;", 60 + 60 + 15, 0);
        begun("again 60[again 1[hour;];];again 60[hour;];hour;", 60 + 60 + 1, 0);
        begun("again 60[again 1[hour;];];again 60[hour;];again 60[hour;];", 60 + 60 + 17, 0);
        begun("again 60[again 60[again 60[again 60[again 60[again 60[hour;];];];];];];", 191, 0);
        begun("again 0[hour;];hour;", 1, 0);

        c.part("what would come behind is left out");
        MoodBelfries x = town();
        c.due("the 200th is done, the 201st is not", 199, () -> Check.work(x,
                "again 39[" + times("hour;", 5) + "];hour;hour;hour;damp 7;damp 8;steal 0;"));
        c.due("damp of the 200th", 7, () -> x.told(4));
        c.due("not stolen", 0, () -> x.told(6));
        c.due("none refused", 0, () -> x.told(10));
        c.due("the next begins anew", 2, () -> Check.work(x, "damp 8;steal 0;"));
    }

    private static void pullBounds() {
        c.part("TEMPER of the MOOD of B is more by HEARD (999 at most)");
        MoodBelfries x = town("bell 0 60;house 0 0;house 0 0;", "99 - house * 62 - pulled / 10 * 90");
        c.due("ten pulls", 10, () -> Check.work(x, "again 10[pull 0;];"));
        c.due("990", 990, () -> x.temper(0, 0));
        c.due("370", 370, () -> x.temper(1, 0));
        c.due("8", 8, () -> Check.law(x, "8 + house") == 1 ? x.heard(0, 0) : 0);
        c.due("to 998", 1, () -> Check.work(x, "pull 0;"));
        c.due("998", 998, () -> x.temper(0, 0));
        x.undo();
        Check.law(x, "9 + house");
        c.due("to 999", 1, () -> Check.work(x, "pull 0;"));
        c.due("999", 999, () -> x.temper(0, 0));
        c.due("the other house", 380, () -> x.temper(1, 0));
        x.undo();
        Check.law(x, "10 + house");
        c.due("no further", 1, () -> Check.work(x, "pull 0;"));
        c.due("999", 999, () -> x.temper(0, 0));
        c.due("the other house", 381, () -> x.temper(1, 0));
        c.due("it counts as done", 1, () -> Check.work(x, "pull 0;"));
        c.due("999", 999, () -> x.temper(0, 0));
        c.due("pulled", 12, () -> x.bell(0, 5));
        c.due("nothing is heard, but it is done", 1, () -> {
            Check.law(x, "0");
            return Check.work(x, "pull 0;");
        });
        c.due("pulled", 13, () -> x.bell(0, 5));
        c.due("all together", 999 + 392, () -> x.told(8));
        MoodBelfries none = town("bell 0 60;");
        c.due("without houses", 1, () -> Check.work(none, "pull 0;"));
        c.due("pulls", 1, () -> none.told(11));
        c.due("no temper", 0, () -> none.told(8));
        MoodBelfries all = town(times("bell 9 60;", 6) + times("house 0 9;", 7), "99");
        for (int i = 0; i < 2; i++) {
            c.due("66", 66, () -> Check.work(all, "again 11[pull 0;pull 1;pull 2;pull 3;pull 4;pull 5;];"));
        }
        c.due("seven houses full", 7 * 999, () -> all.told(8));
        c.due("the last house", 999, () -> all.temper(6, 9));
    }

    private static void pullAhead() {
        c.part("in each HOUSE ... by HEARD, all as ahead of it; B was pulled once more");
        MoodBelfries x = town("bell 0 60;bell 0 60;house 0 0;house 0 0;", "pulled * 10 + house + 1");
        c.due("pull", 1, () -> Check.work(x, "pull 0;"));
        c.due("never pulled in the first house", 1, () -> x.temper(0, 0));
        c.due("nor in the last", 2, () -> x.temper(1, 0));
        c.due("once more", 1, () -> x.bell(0, 5));
        c.due("not the other", 0, () -> x.bell(1, 5));
        c.due("pull", 1, () -> Check.work(x, "pull 0;"));
        c.due("once pulled", 12, () -> x.temper(0, 0));
        c.due("once pulled", 14, () -> x.temper(1, 0));
    }

    private static void crackBounds() {
        c.part("crack: one crack more (REFUSED, if it is stolen, or has 3)");
        MoodBelfries x = town();
        for (int i = 1; i <= 3; i++) {
            int n = i;
            c.due("crack", 1, () -> Check.work(x, "crack 1;"));
            c.due("cracks", n, () -> x.bell(1, 2));
        }
        c.due("a fourth", 0, () -> Check.work(x, "crack 1;"));
        c.due("cracks", 3, () -> x.bell(1, 2));
        c.due("the other has none", 0, () -> x.bell(0, 2));
        c.due("stolen", 1, () -> Check.work(x, "steal 0;crack 0;"));
        c.due("none", 0, () -> x.bell(0, 2));
    }

    private static void gagAndSteal() {
        c.part("gag: it is gagged, or no more; steal; bring");
        MoodBelfries x = town();
        int[] gagged = {1, 0, 1};
        for (int g : gagged) {
            c.due("gag", 1, () -> Check.work(x, "gag 1;"));
            c.due("gagged", g, () -> x.bell(1, 3));
        }
        c.due("speaks", 1, () -> x.told(5));
        c.due("stolen with its gag", 1, () -> Check.work(x, "steal 1;"));
        c.due("still gagged", 1, () -> x.bell(1, 3));
        c.due("stolen", 1, () -> x.bell(1, 4));
        c.due("stolen bits", 2, () -> x.told(6));
        c.due("brought with its gag", 1, () -> Check.work(x, "bring 1;"));
        c.due("still gagged", 1, () -> x.bell(1, 3));
        c.due("not stolen", 0, () -> x.bell(1, 4));
        c.due("does not speak", 1, () -> x.told(5));
        MoodBelfries all = town(times("bell 0 1;", 6));
        c.due("all speak", 63, () -> all.told(5));
        c.due("all stolen", 6, () -> Check.work(all, "steal 0;steal 1;steal 2;steal 3;steal 4;steal 5;"));
        c.due("none speaks", 0, () -> all.told(5));
        c.due("all bits", 63, () -> all.told(6));
    }

    private static void dampRefused() {
        c.part("damp: there is N of it (REFUSED, if there is)");
        MoodBelfries x = town("damp 9;");
        c.due("as told", 0, () -> Check.work(x, "damp 9;"));
        c.due("refused", 1, () -> x.told(10));
        c.due("0", 1, () -> Check.work(x, "damp 0;"));
        c.due("0 again", 0, () -> Check.work(x, "damp 0;"));
        c.due("damp", 0, () -> x.told(4));
        MoodBelfries y = town("");
        c.due("0 without", 0, () -> Check.work(y, "damp 0;"));
        c.due("1 more than that", 1, () -> Check.work(y, "damp 1;"));
    }

    private static void hourRefused() {
        c.part("hour (REFUSED from 900 on)");
        MoodBelfries x = town(TOWN, "80");
        toHour(x, 898);
        c.due("to 899", 1, () -> Check.work(x, "hour;"));
        c.due("899", 899, () -> x.told(3));
        c.due("to 900, and a pull", 2, () -> Check.work(x, "hour;pull 0;"));
        c.due("900", 900, () -> x.told(3));
        c.due("temper", 80, () -> x.temper(0, 3));
        c.due("no further", 0, () -> Check.work(x, "hour;"));
        c.due("900", 900, () -> x.told(3));
        c.due("temper stays", 80, () -> x.temper(0, 3));
        c.due("refused", 1, () -> x.told(10));
        c.due("other steps are done", 1, () -> Check.work(x, "hour;pull 0;hour;"));
        c.due("refused", 2, () -> x.told(10));
        c.due("temper", 160, () -> x.temper(0, 3));

        c.part("Asked ... HOURS go by as by hour (beyond 900, too)");
        c.due("ahead", 119, () -> x.ahead(1, 0) / 2);
        c.due("houses", 0, () -> x.ahead(99, 1));
        c.due("deeds", 1, () -> x.ahead(1, 2));
        c.due("deeds", 0, () -> x.ahead(9, 2));
        c.due("sleeps", 15, () -> x.sleeps(0));
        MoodBelfries y = town(TOWN, "hour");
        toHour(y, 900);
        // 900 is 37 times 24, and 12.
        c.due("a century from 900 on", bySeed(12, 7), () -> y.century(7, 30, 0, 0));
        c.due("the hour stays", 900, () -> y.told(3));
    }

    /** What 30 HOURS of pulls leave in two houses, each pull as loud as the HOUR left by 24. */
    private static int bySeed(int firstHour, int firstSeed) {
        int seed = firstSeed;
        int[] temper = new int[2];
        for (int i = 0; i < 30; i++) {
            seed = seed * 1103515245 + 12345;
            temper[(seed >> 16 & 32767) % 2] += (firstHour + i) % 24;
            seed = seed * 1103515245 + 12345;
            seed = seed * 1103515245 + 12345;
            for (int mood = 0; mood < 2; mood++) {
                temper[mood] = Math.max(0, temper[mood] - temper[mood] / 4 - 1);
            }
        }
        return 2 * (temper[0] + temper[1]);
    }

    private static void hourLess() {
        c.part("each TEMPER is less by a fourth of it (cut), and by 1 more (0 at least)");
        int[] before = {0, 1, 2, 3, 4, 5, 6, 7, 8, 99};
        int[] after = {0, 0, 1, 2, 2, 3, 4, 5, 5, 74};
        for (int i = 0; i < before.length; i++) {
            MoodBelfries x = town("bell 4 1;house 0 0;", Integer.toString(before[i]));
            Check.work(x, "pull 0;");
            int due = after[i];
            c.due(before[i] + " ahead", due, () -> x.ahead(1, 0));
            c.due("hour", 1, () -> Check.work(x, "hour;"));
            c.due(before[i] + " by an hour", due, () -> x.temper(0, 4));
            c.due("HOUR is one more", 1, () -> x.told(3));
        }
        MoodBelfries x = town("bell 4 1;bell 5 1;house 0 0;house 0 0;", "99 - bell * 90");
        Check.work(x, "again 11[pull 0;];pull 1;hour;");
        c.due("999", 749, () -> x.temper(0, 4));
        c.due("each by itself", 6, () -> x.temper(0, 5));
        c.due("in each house", 749, () -> x.temper(1, 4));
    }

    private static void moodBounds() {
        c.part("MOOD of a HOUSE: that of most TEMPER, of alike ones the least; NONE: there is none");
        MoodBelfries x = town("bell 9 1;bell 0 1;bell 4 1;house 0 0;", "5 + most[0, bell - 1] * 0");
        c.due("none", -1, () -> x.house(0, 2));
        Check.work(x, "pull 0;");
        c.due("the last mood", 9, () -> x.house(0, 2));
        Check.work(x, "pull 2;");
        c.due("alike: 4 ahead of 9", 4, () -> x.house(0, 2));
        Check.work(x, "pull 1;");
        c.due("alike: 0 ahead of both", 0, () -> x.house(0, 2));
        Check.law(x, "1");
        Check.work(x, "pull 0;");
        c.due("one more", 9, () -> x.house(0, 2));
        c.due("together", 16, () -> x.house(0, 3));
        MoodBelfries y = town("bell 9 1;house 0 0;", "1");
        Check.work(y, "pull 0;");
        c.due("1 is enough", 9, () -> y.house(0, 2));
        Check.work(y, "hour;");
        c.due("none of any", -1, () -> y.house(0, 2));
    }

    private static void deedBounds() {
        c.part("DONE now, if in its HOUSE there is N of TEMPER of its MOOD, or more");
        for (int heard = 8; heard <= 10; heard++) {
            int h = heard;
            MoodBelfries x = town(TOWN, Integer.toString(h));
            c.due("bell 1 is pulled", 1, () -> Check.work(x, "pull 1;"));
            c.due("deed(1, 3) by " + h, h >= 9 ? 1 : 0, () -> x.deed(1, 3));
            c.due("told(7) by " + h, h >= 9 ? 2 : 0, () -> x.told(7));
            c.due("ahead(0, 2) by " + h, h >= 9 ? 2 : 0, () -> x.ahead(0, 2));
            c.due("another mood does not count", 0, () -> x.deed(0, 3));
        }
        MoodBelfries x = town("bell 0 1;house 0 0;house 0 0;" + times("deed 1 0 1;", 7) + "deed 1 0 200;", "house * 50");
        Check.work(x, "pull 0;");
        c.due("seven of eight", 127, () -> x.told(7));
        Check.work(x, "pull 0;pull 0;");
        c.due("150 of 200", 127, () -> x.told(7));
        Check.work(x, "pull 0;");
        c.due("200 of 200", 255, () -> x.told(7));
        Check.work(x, "hour;");
        c.due("149", 127, () -> x.told(7));
    }

    private static void heardBy(String law, int due) {
        MoodBelfries x = town(TOWN, law);
        c.due("heard by " + law, due, () -> x.heard(0, 0));
        c.due("would by " + law, due, () -> x.would(30, 4, 0, 0, 3, 0, 0, 0, 0));
        c.due("pull by " + law, 1, () -> Check.work(x, "pull 0;"));
        c.due("temper by " + law, due, () -> x.temper(0, 3));
    }

    private static void heardBounds() {
        c.part("HEARD of a BELL in a HOUSE: what comes out, 0 at least, 99 at most");
        heardBy("0 - 1", 0);
        heardBy("0", 0);
        heardBy("1", 1);
        heardBy("98", 98);
        heardBy("99", 99);
        heardBy("100", 99);
        heardBy("999 * 999", 99);
        heardBy("0 - 999 * 999", 0);

        c.part("without: loud - far - apart * 3 - damp");
        MoodBelfries x = new MoodBelfries();
        c.due("60 less 0", 60, () -> x.would(60, 0, 0, 0, 0, 0, 0, 0, 0));
        c.due("60 less 30 less 27 less 3", 0, () -> x.would(60, 30, 9, 3, 3, 999, 23, 6, 6));
        c.due("60 less 30 less 27 less 2", 1, () -> x.would(60, 30, 9, 3, 2, 999, 23, 6, 6));
        c.due("60 less 30 less 27 less 9", 0, () -> x.would(60, 30, 9, 3, 9, 999, 23, 6, 6));
    }

    private static void lawWraps() {
        c.part("Values are whole numbers of 32 bits that wrap");
        // 512 * 512 * 512 * 16 is 2 to the 31st, which is below 0; twice that is 0.
        String low = "512*512*512*16";
        heardBy(low + " / 512 / 512 / 512 + 20", 4);
        heardBy(low + " * 2 + 7", 7);
        heardBy(low + " - 1", 99);
        heardBy("(" + low + " - 1) / 512 / 512 / 512", 15);
        heardBy("(" + low + " - 1) + 1", 0);
        heardBy("(" + low + " - 1) * 2 + 9", 7);
        heardBy("0 - " + low, 0);
        heardBy("(0 - " + low + ") / 512 / 512 / 512 + 20", 4);
        heardBy(low + " / (0 - 1) / 512 / 512 / 512 + 20", 4);
        heardBy(low + " % (0 - 1) + 5", 5);
        heardBy("999 * 999 * 999 * 999 % 97 + 50", 999 * 999 * 999 * 999 % 97 + 50);
        heardBy("least[" + low + ", 0] - most[" + low + ", 3] + 1", 99);

        c.part("/ cuts, % leaves (with the sign of what is divided)");
        heardBy("7 / 2", 3);
        heardBy("(0 - 7) / 2 + 10", 7);
        heardBy("7 / (0 - 2) + 10", 7);
        heardBy("(0 - 7) / (0 - 2)", 3);
        heardBy("7 % 4", 3);
        heardBy("(0 - 7) % 4 + 10", 7);
        heardBy("7 % (0 - 4) + 10", 13);
        heardBy("(0 - 7) % (0 - 4) + 10", 7);
        heardBy("(0 - 8) % 4 + 10", 10);
        heardBy("1 / 2 + 5", 5);
        heardBy("(0 - 1) / 2 + 5", 5);
    }

    private static void lawByZero() {
        c.part("by 0 both are 0");
        heardBy("7 / 0 + 5", 5);
        heardBy("7 % 0 + 5", 5);
        heardBy("0 / 0 + 5", 5);
        heardBy("0 % 0 + 5", 5);
        heardBy("(0 - 7) / (3 - 3) + 5", 5);
        heardBy("(0 - 7) % (3 - 3) + 5", 5);
        heardBy("7 / cracks + 5", 5);
        heardBy("0 / 7 + 5", 5);
        heardBy("0 % 7 + 5", 5);

        c.part("\"least\" \"[\" E \",\" E \"]\", \"most\" \"[\" E \",\" E \"]\"");
        heardBy("least[3, 4]", 3);
        heardBy("least[4, 3]", 3);
        heardBy("most[3, 4]", 4);
        heardBy("most[4, 3]", 4);
        heardBy("least[4, 4] + most[4, 4]", 8);
        heardBy("10 + least[0 - 1, 1]", 9);
    }

    private static void lawKnows() {
        c.part("\"apart\" (how far M and EAR are apart)");
        MoodBelfries x = town("bell 0 1;bell 9 1;bell 4 1;house 0 0;house 0 9;house 0 4;", "apart");
        int[][] apart = {{0, 9, 4}, {9, 0, 5}, {4, 5, 0}};
        for (int b = 0; b < 3; b++) {
            for (int h = 0; h < 3; h++) {
                int bell = b;
                int house = h;
                c.due("heard(" + bell + ", " + house + ")", apart[b][h], () -> x.heard(bell, house));
            }
        }

        c.part("\"hour\" (HOUR, what is left by 24)");
        MoodBelfries y = town(TOWN, "hour");
        for (int hour : new int[] {0, 1, 22, 23, 24, 25, 47, 48, 49, 900}) {
            toHour(y, hour);
            c.due("hour " + hour, hour % 24, () -> y.heard(0, 0));
        }

        c.part("\"cracks\" (by now), \"damp\" (by now), \"pulled\" (by now), \"bell\", \"house\"");
        MoodBelfries z = town(times("bell 0 60;", 6) + times("house 0 0;", 7) + "damp 9;",
                "cracks * 20 + damp * 3 + pulled + bell + house");
        c.due("the last of both", 27 + 5 + 6, () -> z.heard(5, 6));
        Check.work(z, "crack 5;crack 5;crack 5;again 3[pull 5;];damp 0;");
        c.due("three cracks, no damp, three pulls", 60 + 3 + 5 + 6, () -> z.heard(5, 6));
        c.due("another", 0, () -> z.heard(0, 0));
    }

    private static void worksFull() {
        c.part("-20 ahead of that: 16 WORKS are there that were not undone");
        MoodBelfries x = town();
        MoodBelfries y = town();
        for (int i = 1; i <= 16; i++) {
            int n = i;
            c.due("work " + n, 0, () -> Check.work(x, "bring 0;"));
            Check.work(y, "bring 0;");
            c.due("works", n, () -> x.count(2));
        }
        c.due("a fault of another text", -9, () -> Check.law(x, "1 ?"));
        c.due("a 17th", -20, () -> Check.work(x, "pull 0;hour;"));
        c.due("there is no FAULT", -1, () -> x.fault());
        c.due("the TAPE is empty then", 0, () -> x.count(1));
        c.due("ahead of a fault", -20, () -> Check.work(x, "pull 9;?"));
        c.due("there is no FAULT", -1, () -> x.fault());
        c.due("without any step", -20, () -> x.work(0));
        c.due("the refused stay", 1, () -> x.told(10));
        c.same("a 17th", Picture.of(x), Picture.of(y));
        Check.feed(x, "hour;");
        c.wrong("a wrong n", () -> x.work(21));
        c.due("leaves the tape", 20, () -> x.count(1));
        c.due("undo", 15, () -> x.undo());
        c.due("room for one", 1, () -> x.work(5));
        c.due("and no more", -20, () -> Check.work(x, "hour;"));
        c.due("a fault is no work", 15, () -> x.undo());
        c.due("a fault", -8, () -> Check.work(x, "pull 9;"));
        c.due("works", 15, () -> x.count(2));
        c.due("other texts are read when it is full", 1, () -> Check.work(x, "hour;") == 1 ? Check.law(x, "1") : 0);
        c.due("a book, too", 1, () -> Check.book(x, "0 1;"));
        c.due("a district, too", 0, () -> x.district(0));
        c.due("room again", 0, () -> x.count(2));
    }

    private static void undoBounds() {
        c.part("The latest WORK that was done is undone: how many are left; -1: there is none");
        MoodBelfries x = town();
        c.due("none", -1, () -> x.undo());
        c.same("undo of none", Picture.of(x), Picture.of(town()));
        for (int i = 1; i <= 16; i++) {
            Check.work(x, "hour;pull 0;");
        }
        for (int i = 15; i >= 0; i--) {
            int n = i;
            c.due("undo", n, () -> x.undo());
            c.due("hour", n, () -> x.told(3));
            c.due("pulls", n, () -> x.told(11));
        }
        c.due("none", -1, () -> x.undo());
        c.same("all undone", Picture.of(x), Picture.of(town()));
        c.due("an empty WORK is one, too", 0, () -> x.work(0));
        c.due("undo", 0, () -> x.undo());
        c.due("one that was refused all over, too", 0, () -> Check.work(x, "bring 0;"));
        c.due("undo", 0, () -> x.undo());
        c.due("one with a fault is not", -8, () -> Check.work(x, "hour;pull 9;"));
        c.due("none", -1, () -> x.undo());
        c.due("undo keeps the LAW and BOOK", 1, () -> Check.law(x, "7") + Check.work(x, "hour;") + Check.book(x, "0 7;")
                + x.undo() - 2);
        c.due("the law", 7, () -> x.heard(0, 0));
        c.due("the book", 1, () -> x.told(9));
    }

    private static void imageBounds() {
        c.part("how many there are; -1: there are 3");
        MoodBelfries x = town();
        MoodBelfries y = town();
        for (int i = 1; i <= 3; i++) {
            int n = i;
            c.due("image", n, () -> x.image());
            y.image();
            Check.work(x, "hour;");
            Check.work(y, "hour;");
        }
        c.due("a fourth", -1, () -> x.image());
        c.due("images", 3, () -> x.count(0));
        c.same("a fourth image", Picture.allOf(x), Picture.allOf(y));

        c.part("All that is as in the latest IMAGE, which is gone: how many are left; -1: there is none");
        MoodBelfries z = town();
        c.due("none", -1, () -> z.restore());
        c.same("restore of none", Picture.of(z), Picture.of(town()));
        for (int i = 1; i <= 3; i++) {
            Check.work(z, "hour;");
            z.image();
        }
        Check.work(z, "hour;bring 0;");
        for (int i = 2; i >= 0; i--) {
            int n = i;
            c.due("restore", n, () -> z.restore());
            c.due("images", n, () -> z.count(0));
            c.due("hour", n + 1, () -> z.told(3));
            c.due("works", n + 1, () -> z.count(2));
        }
        c.due("none", -1, () -> z.restore());
        c.due("hour", 1, () -> z.told(3));
        c.due("room for three again", 3, () -> z.image() * 0 + z.image() * 0 + z.image());
        c.due("no more", -1, () -> z.image());

        c.part("and of WORKS that can be undone");
        MoodBelfries w = town();
        for (int i = 0; i < 16; i++) {
            Check.work(w, "hour;");
        }
        w.image();
        for (int i = 0; i < 16; i++) {
            w.undo();
        }
        Check.work(w, "pull 0;");
        c.due("restore", 0, () -> w.restore());
        c.due("16 works", 16, () -> w.count(2));
        c.due("full", -20, () -> Check.work(w, "hour;"));
        for (int i = 15; i >= 0; i--) {
            int n = i;
            c.due("undo", n, () -> w.undo());
            c.due("hour", n, () -> w.told(3));
        }
        c.due("no pulls", 0, () -> w.told(11));
        c.due("none", -1, () -> w.undo());
    }

    private static void refusedSteps() {
        c.part("10 STEPS REFUSED by the latest WORK (0 ahead of any, behind undo(), restore())");
        MoodBelfries x = town();
        c.due("ahead of any", 0, () -> x.told(10));
        Check.work(x, "bring 0;bring 1;");
        c.due("two", 2, () -> x.told(10));
        Check.work(x, "hour;");
        c.due("of the latest", 0, () -> x.told(10));
        Check.work(x, "bring 0;");
        c.due("one", 1, () -> x.told(10));
        x.undo();
        c.due("behind undo()", 0, () -> x.told(10));
        Check.work(x, "bring 0;");
        x.image();
        c.due("an image leaves it", 1, () -> x.told(10));
        x.restore();
        c.due("behind restore()", 0, () -> x.told(10));
        Check.work(x, "bring 0;");
        c.due("restore of none", -1, () -> x.restore());
        c.due("leaves it", 1, () -> x.told(10));
        Check.work(x, "bring 0;pull 9;");
        c.due("a text with a fault is no WORK", 1, () -> x.told(10));
        Check.work(x, "again 60[bring 0;bring 0;bring 0;bring 0;];");
        c.due("199 at most", 199, () -> x.told(10));
    }

    private static void newDistrict() {
        c.part("are the DISTRICT (HOUR 0; no LAW, BOOK, IMAGES, nothing to undo)");
        MoodBelfries x = TextBoundTests.used();
        c.due("the same kind of town", 2, () -> Check.district(x, TOWN));
        c.same("a district", Picture.allOf(x), Picture.allOf(town()));
        MoodBelfries y = TextBoundTests.used();
        c.due("an empty one", 0, () -> y.district(0));
        c.same("an empty district", Picture.allOf(y), Picture.allOf(new MoodBelfries()));

        c.part("A DISTRICT without CLAUSES");
        MoodBelfries z = new MoodBelfries();
        c.due("no bells", 0, () -> z.told(0));
        c.due("an empty work", 0, () -> z.work(0));
        c.due("hours go by", 2, () -> Check.work(z, "hour;damp 0;damp 1;"));
        c.due("suit", 0, () -> z.suit());
        c.due("cast", 600, () -> z.cast(0));
        c.due("ask", -1, () -> z.ask(0));
        c.due("loudest", -1, () -> z.loudest(0));
        c.due("kin", 0, () -> z.kin(0));
        c.due("ahead", 0, () -> z.ahead(99, 0));
        c.due("century", 0, () -> z.century(1, 96, 16, 2));
        c.noSuch("metal", () -> z.metal(0, 0, 0));
        c.wrong("span", () -> z.span(0, 1, 1, 0, 0, 0));
    }
}
