/**
 * The bounds of texts, sentence by sentence: the tape, DISTRICT, LAW, WORK and BOOK, numbers, words,
 * blanks and FAULTS. The names of the parts are the document's own words. Behind each text with a
 * FAULT all must be as it was.
 */
public final class TextBoundTests {
    private static final Check c = new Check();
    private static final String NINES = "99999999999999999999999999";
    private static final String ZEROS = "00000000000000000000000000";

    public static void main(String[] args) {
        feedBound();
        readBounds();
        readRefused();
        districtClauses();
        districtBells();
        districtHouses();
        districtDeeds();
        districtDamp();
        lawText();
        lawOpen();
        workText();
        workOpen();
        bookText();
        numbers();
        words();
        blanks();
        firstFromTheLeft();
        atTheLength();
        ofOneTheLeast();
        readAnew();
        c.end();
    }

    /** Two bells, two houses, two deeds, a law, a book, two works (one step refused), an image. */
    static MoodBelfries used() {
        MoodBelfries x = new MoodBelfries();
        Check.district(x, "bell 3 30;bell 5 20;house 4 3;house 10 6;deed 0 3 20;deed 1 5 9;damp 3;");
        Check.law(x, "loud - far + cracks * 2 + pulled - damp");
        Check.book(x, "1 7;");
        Check.work(x, "pull 0;crack 1;gag 1;bring 0;hour;");
        x.image();
        Check.work(x, "steal 1;damp 5;bring 0;pull 0;hour;");
        return x;
    }

    private static String times(String part, int n) {
        return part.repeat(n);
    }

    /** A text with blanks ahead of it, n bytes in all. */
    private static String wide(String text, int n) {
        return times(" ", n - text.length()) + text;
    }

    private static MoodBelfries fine(String kind, String text, int answer) {
        MoodBelfries x = used();
        c.due(kind + " " + text, answer, () -> Check.read(x, kind, text));
        c.due("no fault of " + text, -1, () -> x.fault());
        c.due("the tape behind " + text, 0, () -> x.count(1));
        return x;
    }

    private static void fault(String kind, String text, int answer, int place) {
        MoodBelfries x = used();
        c.due(kind + " " + text, answer, () -> Check.read(x, kind, text));
        c.due("fault of " + text, place, () -> x.fault());
        c.due("none was refused by " + text, 0, () -> x.status(0) + x.status(1));
        c.same(kind + " " + text, Picture.allOf(x), Picture.allOf(used()));
    }

    private static void feedBound() {
        c.part("NONE, doing nothing, if there would be more than 600");
        MoodBelfries x = used();
        int clause = 0x64616d70;
        for (int i = 1; i <= 30; i++) {
            c.due("feed", 20 * i, () -> x.feed(clause, 0x20363b20, 0x20202020, 0x20202020, 0x20202020));
        }
        c.due("a 31st", -1, () -> x.feed(0x3f3f3f3f, 0x3f3f3f3f, 0x3f3f3f3f, 0x3f3f3f3f, 0x3f3f3f3f));
        c.due("bytes", 600, () -> x.count(1));
        c.due("a 32nd", -1, () -> x.feed(0, 0, 0, 0, 0));
        c.due("no such bytes are there", 0, () -> x.district(600));
        c.due("but those ahead of them", 6, () -> x.told(4));
        c.due("empty then: the first again", 20, () -> x.feed(0, 0, 0, 0, 0));

        c.part("of each number the highest first");
        MoodBelfries y = new MoodBelfries();
        c.due("feed", 20, () -> y.feed(0x64616d70, 0x393b2020, 0x20202020, 0x20202020, 0x2020203f));
        c.due("the last byte is the fifth's lowest", -9, () -> y.district(20));
        c.due("at 19", 19, () -> y.fault());
        c.due("feed", 20, () -> y.feed(-1, -1, -1, -1, -1));
        c.due("a byte of 255", -9, () -> y.district(1));
        c.due("feed", 20, () -> y.feed(Integer.MIN_VALUE, 0, 0, 0, 0));
        c.due("a byte of 128", -9, () -> y.district(20));
        c.due("at 0", 0, () -> y.fault());
    }

    /** For each kind of text the bounds of n: n bytes of a tape of so many, none below 0. */
    private static void readBounds() {
        c.part("n is not 0 to the TAPE's bytes; (n to 150); (n to 60)");
        String[] kinds = {"district", "law", "work", "book"};
        int[] most = {600, 150, 150, 60};
        for (int k = 0; k < 4; k++) {
            String kind = kinds[k];
            for (int tape : new int[] {0, 20, 40, 60, 80, 140, 160, 600}) {
                int highest = Math.min(tape, most[k]);
                for (int n : new int[] {Integer.MIN_VALUE, -1, highest + 1, tape + 1, Integer.MAX_VALUE}) {
                    if (n < 0 || n > highest) {
                        refused(kind, tape, n);
                    }
                }
                read(kind, tape, 0);
                read(kind, tape, highest);
                if (highest > 0) {
                    read(kind, tape, highest - 1);
                }
            }
        }
    }

    /** A tape of blanks, but for a LAW, which must have something. */
    private static void lay(MoodBelfries x, String kind, int bytes) {
        Check.feed(x, times(kind.equals("law") ? "1+  " : "    ", bytes / 4));
    }

    private static void refused(String kind, int tape, int n) {
        MoodBelfries x = used();
        lay(x, kind, tape);
        c.wrong(kind + "(" + n + ") of " + tape, () -> Check.readFirst(x, kind, n));
        c.due("the tape stays", tape, () -> x.count(1));
        c.due("refused once", 1, () -> x.status(1));
        c.due("none missing", 0, () -> x.status(0));
    }

    private static void read(String kind, int tape, int n) {
        MoodBelfries x = used();
        lay(x, kind, tape);
        int due = !kind.equals("law") ? 0 : n % 4 == 1 ? 1 : -9;
        c.due(kind + "(" + n + ") of " + tape, due, () -> Check.readFirst(x, kind, n));
        c.due("fault()", due == -9 ? n : -1, () -> x.fault());
        c.due("the tape is empty then", 0, () -> x.count(1));
        c.due("none refused", 0, () -> x.status(0) + x.status(1));
    }

    private static void readRefused() {
        c.part("IllegalArgumentException: ... (it stays)");
        String[][] texts = {{"district", "bell 1 2;bell 1 3;  ", "2"}, {"law", "7                   ", "1"},
            {"work", "hour;hour;pull 0;   ", "3"}, {"book", "0 3;1 4;            ", "2"}};
        for (String[] text : texts) {
            MoodBelfries x = used();
            MoodBelfries y = used();
            Check.law(x, " ?");
            Check.feed(x, text[1]);
            Check.feed(y, text[1]);
            c.wrong(text[0] + "(21)", () -> Check.readFirst(x, text[0], 21));
            c.wrong(text[0] + "(-1)", () -> Check.readFirst(x, text[0], -1));
            c.due("the fault stays", 1, () -> x.fault());
            c.same(text[0] + " refused", Picture.of(x), Picture.of(y));
            c.due("its bytes, too", Integer.parseInt(text[2]), () -> Check.readFirst(x, text[0], 20));
            c.due("and no fault", -1, () -> x.fault());
        }
    }

    private static void districtClauses() {
        c.part("A DISTRICT is a text of up to 600 bytes");
        fine("district", wide("bell 0 1;", 599), 1);
        fine("district", wide("bell 0 1;", 600), 1);
        fault("district", wide("bell 0 1", 600), -9, 600);
        fault("district", wide("damp 10;", 600), -8, 597);
        fine("district", "", 0);
        fine("district", times(" ", 600), 0);

        c.part("{ CLAUSE \";\" }, at most 60");
        fine("district", times("damp 1;", 59), 0);
        fine("district", times("damp 1;", 60), 0);
        fine("district", times("damp 1;", 60) + times(" ", 9), 0);
        fault("district", times("damp 1;", 61), -7, 420);
        fault("district", times("damp 1;", 60) + "  damp 10;", -7, 422);
        fault("district", times("damp 1;", 59) + "damp 10;damp 1;", -8, 418);
        String full = "bell 0 1;house 0 0;" + times("damp 1;", 58);
        fine("district", full, 1);
        fault("district", full + "bell 0 1;", -7, full.length());
        fault("district", full + "house 0 1;", -7, full.length());
        fault("district", full + "deed 0 0 1;", -7, full.length());
        fault("district", full + "damp", -7, full.length());
    }

    private static void districtBells() {
        c.part("BELLS, numbered from 0 on, 6 at most");
        fine("district", times("bell 1 2;", 5), 5);
        MoodBelfries x = fine("district", times("bell 1 2;", 5) + "bell 7 8;", 6);
        c.due("the last bell's mood", 7, () -> x.bell(5, 0));
        c.due("the last bell's loud", 8, () -> x.bell(5, 1));
        c.noSuch("no seventh", () -> x.bell(6, 0));
        fault("district", times("bell 1 2;", 7), -7, 54);
        fault("district", times("bell 1 2;", 6) + "damp 1; bell", -7, 62);

        c.part("MOOD M, 0 to 9, LOUD L, 1 to 60");
        MoodBelfries least = fine("district", "bell 0 1;", 1);
        c.due("mood 0", 0, () -> least.bell(0, 0));
        c.due("loud 1", 1, () -> least.bell(0, 1));
        MoodBelfries most = fine("district", "bell 9 60;", 1);
        c.due("mood 9", 9, () -> most.bell(0, 0));
        c.due("loud 60", 60, () -> most.bell(0, 1));
        fault("district", "bell 10 60;", -8, 5);
        fault("district", "bell 9 0;", -8, 7);
        fault("district", "bell 9 61;", -8, 7);
    }

    private static void districtHouses() {
        c.part("HOUSES likewise, 7: D FAR, 0 to 30, EAR E, 0 to 9");
        fine("district", times("house 1 2;", 6), 0);
        MoodBelfries x = fine("district", times("house 1 2;", 6) + "house 30 9;", 0);
        c.due("seven", 7, () -> x.told(1));
        c.due("far 30", 30, () -> x.house(6, 0));
        c.due("ear 9", 9, () -> x.house(6, 1));
        c.noSuch("no eighth", () -> x.house(7, 0));
        MoodBelfries y = fine("district", "house 0 0;", 0);
        c.due("far 0", 0, () -> y.house(0, 0));
        c.due("ear 0", 0, () -> y.house(0, 1));
        fault("district", times("house 1 2;", 8), -7, 70);
        fault("district", "house 31 9;", -8, 6);
        fault("district", "house 30 10;", -8, 9);
    }

    private static void districtDeeds() {
        c.part("DEEDS likewise, 8: in HOUSE H, told ahead, by N, 1 to 200, of MOOD M, 0 to 9");
        fine("district", "house 0 0;" + times("deed 0 0 1;", 7), 0);
        MoodBelfries x = fine("district", "house 0 0;" + times("deed 0 0 1;", 7) + "deed 0 9 200;", 0);
        c.due("eight", 8, () -> x.told(2));
        c.due("house 0", 0, () -> x.deed(7, 0));
        c.due("mood 9", 9, () -> x.deed(7, 1));
        c.due("by 200", 200, () -> x.deed(7, 2));
        c.due("mood 0", 0, () -> x.deed(0, 1));
        c.due("by 1", 1, () -> x.deed(0, 2));
        c.noSuch("no ninth", () -> x.deed(8, 0));
        fault("district", "house 0 0;" + times("deed 0 0 1;", 9), -7, 98);
        MoodBelfries y = fine("district", times("house 0 0;", 7) + "deed 6 0 1;", 0);
        c.due("house 6", 6, () -> y.deed(0, 0));
        fault("district", times("house 0 0;", 7) + "deed 7 0 1;", -8, 75);
        fault("district", "deed 0 0 1;house 0 0;", -8, 5);
        fault("district", "house 0 0;deed 1 0 1;house 0 0;", -8, 15);
        fine("district", "house 0 0;house 0 0;deed 1 0 1;house 0 0;", 0);
        fault("district", "house 0 0;deed 0 10 1;", -8, 17);
        fault("district", "house 0 0;deed 0 9 0;", -8, 19);
        fault("district", "house 0 0;deed 0 9 201;", -8, 19);
    }

    private static void districtDamp() {
        c.part("\"damp\" N (0 to 9; 0 without; the last counts)");
        c.due("0 without", 0, () -> fine("district", "bell 0 1;", 1).told(4));
        c.due("0", 0, () -> fine("district", "damp 0;", 0).told(4));
        c.due("9", 9, () -> fine("district", "damp 9;", 0).told(4));
        c.due("the last", 4, () -> fine("district", "damp 9;bell 0 1;damp 4;house 0 0;", 1).told(4));
        c.due("the last is 0", 0, () -> fine("district", "damp 9;damp 0;", 0).told(4));
        fault("district", "damp 10;", -8, 5);
        fault("district", "damp 9;damp 10;damp 1;", -8, 12);
    }

    private static void lawText() {
        c.part("A LAW is a text of up to 150 bytes: E, at the end nothing more");
        c.due("149", 5, () -> fine("law", wide("5", 149), 1).heard(0, 0));
        c.due("150", 75, () -> fine("law", times("1+", 74) + "1 ", 1).heard(0, 0));
        c.due("150 of deep stack", 0, () -> fine("law", times("1*", 74) + "0 ", 1).heard(0, 0));
        fault("law", wide("5+", 150), -9, 150);
        fault("law", "", -9, 0);
        fault("law", times(" ", 150), -9, 150);
        fault("law", "5 5", -9, 2);
        fault("law", "5 loud", -9, 2);
        fault("law", "5;", -9, 1);
        fault("law", "(5))", -9, 3);
        fault("law", "least[1,2]]", -9, 10);

        c.part("N (0 to 999)");
        c.due("0", 0, () -> fine("law", "0", 1).heard(0, 0));
        c.due("999", 99, () -> fine("law", "999 - 900", 1).heard(0, 0));
        fault("law", "1000", -8, 0);
        fault("law", "999 - 1000", -8, 6);
    }

    private static void lawOpen() {
        c.part("a 7th of ( least most again that is open at one time");
        fine("law", times("(", 6) + "1" + times(")", 6), 1);
        fault("law", times("(", 7) + "1" + times(")", 7), -7, 6);
        fine("law", times("least[", 6) + "1" + times(",2]", 6), 1);
        fault("law", times("least[", 7) + "1" + times(",2]", 7), -7, 36);
        fine("law", times("most[", 6) + "1" + times(",2]", 6), 1);
        fault("law", times("most[", 7) + "1" + times(",2]", 7), -7, 30);
        fine("law", times("most[2,", 6) + "1" + times("]", 6), 1);
        fault("law", times("most[2,", 7) + "1" + times("]", 7), -7, 42);
        fine("law", "(least[1,(most[(least[1,2]),3])])", 1);
        fault("law", "(least[1,(most[(least[(1),2]),3])])", -7, 22);
        fault("law", "(least[1,(most[(least[1,(2)]),3])])", -7, 24);
        fine("law", "((((((1)))))+(2))", 1);
        fine("law", times("(1)+", 20) + "((((((1))))))", 1);
        fine("law", times("most[1,2]+", 9) + "((((((1))))))", 1);
        fault("law", "((((((1))))))+(((((((1", -7, 20);
    }

    private static void workText() {
        c.part("WORK is a text of up to 150 bytes: { STEP \";\" }");
        fine("work", "", 0);
        fine("work", times(" ", 150), 0);
        fine("work", wide("pull 0;", 149), 1);
        fine("work", times("hour;", 30), 30);
        fault("work", times("hour;", 29) + " hour", -9, 150);
        fault("work", ";", -9, 0);
        fault("work", "hour;;", -9, 5);
        fault("work", "hour hour;", -9, 5);

        c.part("\"pull\" B, \"crack\" B, \"gag\" B, \"steal\" B, \"bring\" B");
        for (String word : new String[] {"pull", "crack", "gag", "steal", "bring"}) {
            fine("work", "bring 1;gag 1;steal 0;bring 0;steal 1;bring 1;" + word + " 0;",
                    word.equals("bring") ? 6 : 7);
            fine("work", "bring 1;gag 1;" + word + " 1;", word.equals("bring") ? 2 : 3);
            fault("work", word + " 2;", -8, word.length() + 1);
            fault("work", word + ";", -9, word.length());
            MoodBelfries x = new MoodBelfries();
            c.due(word + " without bells", -8, () -> Check.work(x, word + " 0;"));
            c.due("its place", word.length() + 1, () -> x.fault());
        }

        c.part("\"damp\" N (0 to 9)");
        c.due("damp 0", 0, () -> fine("work", "damp 0;", 1).told(4));
        c.due("damp 9", 9, () -> fine("work", "damp 9;", 1).told(4));
        fault("work", "damp 10;", -8, 5);

        c.part("\"again\" N \"[\" { STEP \";\" } \"]\" (N 0 to 60)");
        fine("work", "again 0[hour;];", 0);
        fine("work", "again 1[hour;];", 1);
        fine("work", "again 60[hour;];", 60);
        fine("work", "again 60[];", 0);
        fault("work", "again 61[hour;];", -8, 6);
        fault("work", "again 1[hour;]", -9, 14);
        fault("work", "again 1[hour;", -9, 13);
        fault("work", "again 0[pull 2;];", -8, 13);
        fault("work", "];", -9, 0);
    }

    private static void workOpen() {
        c.part("a 7th of ( least most again that is open at one time");
        fine("work", times("again 1[", 6) + "hour;" + times("];", 6), 1);
        fault("work", times("again 1[", 7) + "hour;" + times("];", 7), -7, 48);
        fault("work", times("again 1[", 6) + "again 61", -7, 48);
        fine("work", times("again 1[", 6) + times("];", 6) + times("again 1[", 6) + times("];", 6), 0);
        fine("work", times("again 1[", 5) + times("again 1[];", 5) + times("];", 5), 0);
        fine("work", times("again 1[];", 15), 0);
    }

    private static void bookText() {
        c.part("A BOOK is a text of up to 60 bytes: { H V \";\" }");
        c.due("no lines", 0, () -> fine("book", "", 0).told(9));
        fine("book", times(" ", 60), 0);
        fine("book", wide("1 2;", 59), 1);
        fine("book", wide("1 2;", 60), 1);
        fault("book", wide("1 2", 60), -9, 60);
        fault("book", ";", -9, 0);
        fault("book", "0;", -9, 1);
        fault("book", "0 1;;", -9, 4);

        c.part("in HOUSE H there was V HEARD (0 to 99)");
        fine("book", "0 0;1 99;", 2);
        fault("book", "2 0;", -8, 0);
        fault("book", "0 100;", -8, 2);
        MoodBelfries none = new MoodBelfries();
        c.due("without houses", -8, () -> Check.book(none, "0 0;"));
        MoodBelfries seven = new MoodBelfries();
        Check.district(seven, times("house 0 0;", 7));
        c.due("seven lines", 7, () -> Check.book(seven, "6 9;5 9;4 9;3 9;2 9;1 9;0 9;"));
        c.due("no house 7", -8, () -> Check.book(seven, "6 9;7 9;"));
        c.due("at 4", 4, () -> seven.fault());
        c.due("the lines stay", 7, () -> seven.told(9));
        c.due("an eighth line", -8, () -> Check.book(seven, "6 9;5 9;4 9;3 9;2 9;1 9;0 9;6 9;"));
        c.due("at 28", 28, () -> seven.fault());

        c.part("no H twice; (an H twice in a BOOK)");
        fault("book", "0 1;0 1;", -8, 4);
        fault("book", "0 1;1 1;  1 1;", -8, 10);
        fault("book", "0 1;1 1;001", -8, 8);
        fault("book", "1 1;1", -8, 4);
        fine("book", "1 0;0 1;", 2);
    }

    private static void numbers() {
        c.part("Numbers: digits, as many as stand there");
        c.due("zeros ahead", 9, () -> fine("district", "damp " + ZEROS + "9;", 0).told(4));
        fault("district", "damp " + NINES + ";", -8, 5);
        // 2 to the 32nd and to the 64th, and some more, would be small again if they wrapped.
        for (String high : new String[] {"4294967296", "4294967297", "2147483648", "18446744073709551617",
            "10000", "65537", "340282366920938463463374607431768211457"}) {
            fault("district", "bell " + high + " 1;", -8, 5);
            fault("law", "1+" + high, -8, 2);
            fault("work", "pull " + high + ";", -8, 5);
            fault("work", "again " + high + "[];", -8, 6);
            fault("book", high + " 1;", -8, 0);
            fault("book", "0 " + high + ";", -8, 2);
        }
        fault("district", "bell 330;", -8, 5);
        fault("district", "bell 3;", -9, 6);
        c.due("zeros alone", 0, () -> fine("law", ZEROS, 1).heard(0, 0));
        c.due("zeros ahead", 7, () -> fine("law", ZEROS + "7", 1).heard(0, 0));
        fine("work", "pull " + ZEROS + "0;", 1);
        fine("book", ZEROS + "1 " + ZEROS + "2;", 1);
        fault("law", times("9", 150), -8, 0);
        fine("law", times("0", 150), 1);
        fault("district", "damp " + times("9", 595), -8, 5);
        fault("district", "damp -1;", -9, 5);
        fault("district", "damp +1;", -9, 5);
        fault("district", "damp 1.5;", -9, 6);
        fault("district", "damp /;", -9, 5);
        fault("district", "damp :;", -9, 5);
        fault("district", "damp 1/;", -9, 6);
        fault("district", "damp 1:;", -9, 6);
    }

    private static void words() {
        c.part("WORDS: small letters, as many as stand there");
        c.due("a number at once behind", 7, () -> fine("district", "damp7;", 0).told(4));
        fault("district", "dampp 7;", -9, 0);
        fault("district", "dam 7;", -9, 0);
        fault("district", "ddamp 7;", -9, 0);
        fault("district", "dampa 7;", -9, 0);
        fault("district", "dampz 7;", -9, 0);
        fault("district", "lamp 7;", -9, 0);
        fault("district", "tell 0 1;", -9, 0);
        fault("district", "mouse 0 1;", -9, 0);
        fault("district", "Damp 7;", -9, 0);
        fault("district", "damP 7;", -9, 0);
        fault("district", "dampbell 7;", -9, 0);
        fault("district", "pull 0;", -9, 0);
        fault("district", "a" + times("z", 599), -9, 0);
        fault("district", "damp` 7;", -9, 4);
        fault("district", "damp{ 7;", -9, 4);
        fault("district", "bell house deed damp;", -9, 5);
        fault("district", "7;", -9, 0);
        fault("law", "louder", -9, 0);
        fault("law", "cloud", -9, 0);
        fault("law", "car", -9, 0);
        fault("law", "loudfar", -9, 0);
        fault("law", "lou", -9, 0);
        fault("law", "again", -9, 0);
        fault("law", "least(1,2)", -9, 5);
        fault("law", "most", -9, 4);
        fault("work", "0;", -9, 0);
        fault("work", "hour;1;", -9, 5);
        fault("work", "again 1[0;];", -9, 8);
        fault("work", "pulls 0;", -9, 0);
        fault("work", "bull 0;", -9, 0);
        fault("work", "hourhour;", -9, 0);
        fault("work", "bell 0;", -9, 0);
        fault("book", "house 1;", -9, 0);
        fault("book", "0 x;", -9, 2);
    }

    private static void blanks() {
        c.part("blanks (32) may stand ahead of all these, and at the end");
        fine("district", "  bell  3  4  ;  house  5  6  ;  deed  0  3  4  ;  damp  7  ;  ", 1);
        fine("district", "bell3 4;house5 6;deed0 3 4;damp7;", 1);
        c.due("a law", 21, () -> fine("law", "  least  [  loud  ,  9  ]  *  (  2  +  1  )  -  6  ", 1).heard(0, 0));
        c.due("a law without", 21, () -> fine("law", "least[loud,9]*(2+1)-6", 1).heard(0, 0));
        fine("work", "  again  2  [  pull  0  ;  hour  ;  ]  ;  ", 4);
        fine("work", "again2[pull0;hour;];", 4);
        fine("book", "  0  1  ;  1  2  ;  ", 2);
        fine("book", "0 1;1 2;", 2);
        fault("district", "da mp 7;", -9, 0);
        fault("district", "damp 1 0;", -9, 7);
        fault("law", "1 0", -9, 2);
        fault("book", "0 1 0;", -9, 4);
        for (char no : new char[] {0, 9, 10, 13, 31, 33, 127, 160, 255}) {
            fault("district", "damp 7;" + no, -9, 7);
            fault("district", no + "damp 7;", -9, 0);
            fault("law", "7" + no, -9, 1);
            fault("work", "hour;" + no, -9, 5);
            fault("book", "0 1;" + no, -9, 4);
        }
    }

    private static void firstFromTheLeft() {
        c.part("FAULTS, the first from the left, at its first byte");
        fault("district", "damp 1; bell 10 61; dump", -8, 13);
        fault("district", "bell 9 61 61;", -8, 7);
        fault("district", times("bell 0 1;", 6) + "bell 10 0", -7, 54);
        fault("law", "1 + 1000 + ?", -8, 4);
        fault("law", "1 + ? + 1000", -9, 4);
        fault("law", "((((((( 1000", -7, 6);
        fault("law", "1000 (((((((", -8, 0);
        fault("work", "hour; pull 9; dump", -8, 11);
        fault("work", "again 61[ pull 9", -8, 6);
        fault("book", "0 100;0 1;", -8, 2);
        fault("book", "0 1;0 100;", -8, 4);
    }

    private static void atTheLength() {
        c.part("1 what can't stand there (at the length, if the text ends too early)");
        for (String text : new String[] {"bell", "bell 1", "bell 1 2", "house 3", "deed", "damp", "damp 1  "}) {
            fault("district", text, -9, text.length());
        }
        for (String text : new String[] {"1+", "1 * ", "(", "(1", "least", "least[", "least[1", "most[1,", "most[1,2 "}) {
            fault("law", text, -9, text.length());
        }
        for (String text : new String[] {"pull", "pull 1", "hour", "again", "again 2 ", "again 2[", "again 2[hour;]"}) {
            fault("work", text, -9, text.length());
        }
        for (String text : new String[] {"1", "1 ", "1 2", "1 2  ", "1 2;0"}) {
            fault("book", text, -9, text.length());
        }
        MoodBelfries x = used();
        Check.feed(x, "damp 1;bell 1 2;");
        c.due("the length is n, whatever is on the tape", -9, () -> x.district(6));
        c.due("at 6", 6, () -> x.fault());
    }

    private static void ofOneTheLeast() {
        c.part("of one the least");
        fault("district", times("damp 1;", 60) + "dump 1;", -9, 420);
        fault("district", times("damp 1;", 60) + ";", -9, 420);
        fault("district", times("damp 1;", 60) + "7", -9, 420);
        fault("district", times("bell 0 1;", 6) + "damp 1 bell 0 1;", -9, 61);
        fault("law", "((((((1(", -9, 7);
        fault("law", "((((((1 least", -9, 8);
        fault("law", "((((((leas", -9, 6);
        fault("work", times("again 1[", 6) + "hour again", -9, 53);
        fault("work", times("again 1[", 6) + "agai", -9, 48);
    }

    /** Nothing of an earlier text, with a FAULT or without, is left in a later one. */
    private static void readAnew() {
        c.part("The first n bytes of the TAPE (empty then) are the DISTRICT; Likewise the LAW, WORK, the BOOK");
        MoodBelfries x = used();
        c.due("six open and no end", -9, () -> Check.law(x, "((((((1"));
        c.due("six open", 1, () -> Check.law(x, "((((((1))))))"));
        c.due("six open and no end", -9, () -> Check.work(x, times("again 1[", 6)));
        c.due("six open", 1, () -> Check.work(x, times("again 1[", 6) + "hour;" + times("];", 6)));
        c.due("six open, of a law", -9, () -> Check.law(x, "most[most[most[most[most[most[1,"));
        c.due("six open, of a work", 0, () -> Check.work(x, times("again 1[", 6) + times("];", 6)));
        c.due("a book with a line, and a fault", -9, () -> Check.book(x, "0 5;1"));
        c.due("a book with that line again", 1, () -> Check.book(x, "0 6;"));

        MoodBelfries y = used();
        String full = "bell 1 1;house 0 0;deed 0 0 1;damp 5;";
        c.due("a full one", 1, () -> Check.district(y, full));
        c.due("an empty one", 0, () -> y.district(0));
        c.due("an empty one again", 0, () -> y.district(0));
        c.same("an empty one", Picture.of(y), Picture.of(new MoodBelfries()));
        c.due("a full one with a fault", -9, () -> Check.district(y, full + "?"));
        c.due("blanks alone", 0, () -> Check.district(y, "   "));
        c.same("blanks alone", Picture.of(y), Picture.of(new MoodBelfries()));
        c.due("a full one with a fault", -8, () -> Check.district(y, full + times("bell 1 1;", 5) + "damp 10;"));
        c.due("six bells", 6, () -> Check.district(y, times("bell 1 1;", 6)));
        c.due("no houses", 0, () -> y.told(1));
        c.due("no deeds", 0, () -> y.told(2));
        c.due("no damp", 0, () -> y.told(4));
    }
}
