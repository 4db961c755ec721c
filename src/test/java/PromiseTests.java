/** For each promise of the document: ordinary inputs, the edges that it names, and wrong inputs. */
public final class PromiseTests {
    private static final Check c = new Check();

    /** Three bells (mood 3 loud 30, mood 5 loud 20, mood 3 loud 50), three houses, three deeds. */
    private static final String TOWN = "bell 3 30;bell 5 20;bell 3 50;house 4 3;house 10 6;house 0 9;"
            + "deed 0 3 100;deed 1 5 12;deed 2 0 1;damp 2;";

    public static void main(String[] args) {
        newObject();
        feed();
        district();
        districtFaults();
        law();
        lawValues();
        lawFaults();
        work();
        workSteps();
        workBounds();
        workFaults();
        book();
        fault();
        undo();
        told();
        bell();
        house();
        deed();
        temper();
        heard();
        would();
        ahead();
        sleeps();
        rouse();
        suit();
        suited();
        pulls();
        cast();
        ask();
        changes();
        next();
        within();
        place();
        ringers();
        sounds();
        metal();
        loudest();
        deaf();
        kin();
        century();
        span();
        image();
        restore();
        status();
        count();
        c.end();
    }

    private static MoodBelfries town() {
        MoodBelfries x = new MoodBelfries();
        Check.district(x, TOWN);
        return x;
    }

    private static String times(String part, int n) {
        return part.repeat(n);
    }

    private static void newObject() {
        c.part("promise 1");
        MoodBelfries x = new MoodBelfries();
        for (int what = 0; what <= 11; what++) {
            int w = what;
            c.due("told(" + w + ")", 0, () -> x.told(w));
        }
        c.due("fault()", -1, () -> x.fault());
        c.due("count(0)", 0, () -> x.count(0));
        c.due("count(1)", 0, () -> x.count(1));
        c.due("count(2)", 0, () -> x.count(2));
        c.due("status(0)", 0, () -> x.status(0));
        c.due("status(1)", 0, () -> x.status(1));
        c.due("NONE", -1, () -> MoodBelfries.NONE);
        c.due("the common law", 60 - 3 - 3 * 4 - 2, () -> x.would(60, 3, 4, 0, 2, 0, 0, 0, 0));
    }

    private static void feed() {
        c.part("promise 2");
        MoodBelfries x = new MoodBelfries();
        for (int i = 1; i <= 30; i++) {
            c.due("feed", i * 20, () -> x.feed(0x20202020, 0x20202020, 0x20202020, 0x20202020, 0x20202020));
        }
        c.due("feed beyond 600", -1, () -> x.feed(0, 0, 0, 0, 0));
        c.due("bytes", 600, () -> x.count(1));
        c.due("district of 600 blanks", 0, () -> x.district(600));
        c.due("bytes", 0, () -> x.count(1));
        c.due("feed", 20, () -> x.feed(0x62656c6c, 0x3020313b, 0x62656c6c, 0x3120323b, -1));
        c.due("highest first", 2, () -> x.district(16));
        c.due("bell 1", 1, () -> x.bell(1, 0));
        c.due("bell 1", 2, () -> x.bell(1, 1));
    }

    private static void district() {
        c.part("promise 3");
        MoodBelfries x = new MoodBelfries();
        c.due("district", 3, () -> Check.district(x, TOWN));
        c.due("bells", 3, () -> x.told(0));
        c.due("houses", 3, () -> x.told(1));
        c.due("deeds", 3, () -> x.told(2));
        c.due("damp", 2, () -> x.told(4));
        Check.law(x, "7");
        Check.book(x, "0 7;");
        Check.work(x, "hour;pull 0;bring 0;damp 5;");
        x.image();
        c.due("a fault", -9, () -> Check.district(x, "bell 1 1;x"));
        c.due("all stays: bells", 3, () -> x.told(0));
        c.due("all stays: law", 7, () -> x.heard(0, 0));
        c.due("all stays: hour", 1, () -> x.told(3));
        c.due("all stays: images", 1, () -> x.count(0));
        c.due("all stays: works", 1, () -> x.count(2));
        c.due("all stays: book", 1, () -> x.told(9));
        c.due("all stays: refused", 1, () -> x.told(10));
        c.due("the tape does not", 0, () -> x.count(1));
        Check.feed(x, "bell 4 9; house 2 4;");
        c.wrong("district beyond the tape", () -> x.district(21));
        c.wrong("district below 0", () -> x.district(-1));
        c.due("the tape stays", 20, () -> x.count(1));
        c.due("district", 1, () -> x.district(20));
        c.due("hour", 0, () -> x.told(3));
        c.due("damp", 0, () -> x.told(4));
        c.due("no temper", 0, () -> x.told(8));
        c.due("no book", 0, () -> x.told(9));
        c.due("none refused", 0, () -> x.told(10));
        c.due("no pulls", 0, () -> x.told(11));
        c.due("no images", 0, () -> x.count(0));
        c.due("nothing to undo", 0, () -> x.count(2));
        c.due("no law", 7, () -> x.heard(0, 0));
        c.due("the last damp counts", 0, () -> Check.district(x, " damp 7 ; damp3;damp 00005; "));
        c.due("damp", 5, () -> x.told(4));
        c.due("the first bytes alone", 1, () -> {
            Check.feed(x, "bell 0 1;bell 0 1;");
            return x.district(9);
        });
        c.due("the rest is gone", 0, () -> x.count(1));
        c.due("an empty one", 0, () -> x.district(0));
        c.due("60 clauses", 0, () -> Check.district(x, times("damp 1;", 60)));
    }

    private static void districtFault(String text, int answer, int place) {
        MoodBelfries x = new MoodBelfries();
        c.due("district " + text, answer, () -> Check.district(x, text));
        c.due("fault of " + text, place, () -> x.fault());
    }

    private static void districtFaults() {
        districtFault("bell 9 60;house 30 9;deed 0 9 200;damp 9;", 1, -1);
        districtFault("bell 10 60;", -8, 5);
        districtFault("bell 9 0;", -8, 7);
        districtFault("bell 9 61;", -8, 7);
        districtFault("house 31 0;", -8, 6);
        districtFault("house 0 10;", -8, 8);
        districtFault("deed 0 0 1;house 0 0;", -8, 5);
        districtFault("house 0 0;deed 1 0 1;", -8, 15);
        districtFault("house 0 0;deed 0 10 1;", -8, 17);
        districtFault("house 0 0;deed 0 0 0;", -8, 19);
        districtFault("house 0 0;deed 0 0 201;", -8, 19);
        districtFault("damp 10;", -8, 5);
        districtFault("damp 99999999999999999999999;", -8, 5);
        districtFault("damp 4294967297;", -8, 5);
        districtFault("belll 0 1;", -9, 0);
        districtFault("bel 0 1;", -9, 0);
        districtFault("Bell 0 1;", -9, 0);
        districtFault("  ;", -9, 2);
        districtFault("bell 0 1", -9, 8);
        districtFault("bell 0 1  ", -9, 10);
        districtFault("bell 0;", -9, 6);
        districtFault("bell x 1;", -9, 5);
        districtFault("bell -1 1;", -9, 5);
        districtFault("bell 0 1 1;", -9, 9);
        districtFault("bell\t0 1;", -9, 4);
        districtFault("bell 0 1;\0", -9, 9);
        districtFault("damp 1;" + (char) 200, -9, 7);
        districtFault(times("bell 0 1;", 6), 6, -1);
        districtFault(times("bell 0 1;", 6) + " bell x", -7, 55);
        districtFault(times("house 0 1;", 7) + "house", -7, 70);
        districtFault("house 0 0;" + times("deed 0 0 1;", 8) + "deed", -7, 98);
        districtFault(times("damp 1;", 60) + " damp 1;", -7, 421);
        districtFault(times("damp 1;", 60) + "dump 1;", -9, 420);
        districtFault(times("damp 1;", 60) + "1", -9, 420);
    }

    private static void law() {
        c.part("promise 4");
        MoodBelfries x = town();
        c.due("law", 1, () -> Check.law(x, "loud"));
        c.due("heard", 30, () -> x.heard(0, 1));
        c.due("a fault", -9, () -> Check.law(x, "far far"));
        c.due("the law stays", 30, () -> x.heard(0, 1));
        c.due("the tape does not", 0, () -> x.count(1));
        Check.feed(x, times("1+", 80));
        c.wrong("law beyond 150", () -> x.law(151));
        c.wrong("law below 0", () -> x.law(-1));
        c.due("the tape stays", 160, () -> x.count(1));
        c.due("law of 149", 1, () -> x.law(149));
        c.due("heard", 75, () -> x.heard(0, 1));
        Check.feed(x, "5");
        c.wrong("law beyond the tape", () -> x.law(21));
        c.due("law", 1, () -> x.law(1));
        c.due("heard", 5, () -> x.heard(0, 1));
        c.due("150 blanks and a word", 1, () -> Check.law(x, times(" ", 146) + "loud"));
        Check.work(x, "pull 0;");
        x.undo();
        c.due("undo keeps the law", 30, () -> x.heard(0, 1));
    }

    private static void lawValue(String text, int want) {
        MoodBelfries x = new MoodBelfries();
        c.due("law " + text, 1, () -> Check.law(x, text));
        c.due("heard by " + text, want, () -> x.would(40, 7, 5, 3, 8, 999, 23, 6, 4));
    }

    private static void lawValues() {
        lawValue("loud", 40);
        lawValue("far", 7);
        lawValue("apart", 5);
        lawValue("cracks", 3);
        lawValue("damp", 8);
        lawValue("pulled-920", 79);
        lawValue("hour", 23);
        lawValue("bell", 6);
        lawValue("house", 4);
        lawValue("0", 0);
        lawValue("0099", 99);
        lawValue("100", 99);
        lawValue("999", 99);
        lawValue("1 - 2", 0);
        lawValue("loud-far-apart", 28);
        lawValue("loud-(far-apart)", 38);
        lawValue("2+3*4", 14);
        lawValue("(2+3)*4", 20);
        lawValue("100/7/2", 7);
        lawValue("100/(7/2)", 33);
        lawValue("50%9*2", 10);
        lawValue("(0-7)/2+10", 7);
        lawValue("(0-7)%4+10", 7);
        lawValue("7%(0-4)+10", 13);
        lawValue("5+7/0", 5);
        lawValue("5+7%0", 5);
        lawValue("least[3,9]+most[3,9]*2", 21);
        lawValue(" most [ least [ loud , far ] , 1 ] ", 7);
        lawValue("999*999*999*999%97+50", (999 * 999 * 999 * 999) % 97 + 50);
        lawValue("(0-512*512*512*16)/(0-1)/512/512/512+20", 4);
        lawValue("((((((1))))))+((((((2))))))", 3);
    }

    private static void lawFault(String text, int answer, int place) {
        MoodBelfries x = new MoodBelfries();
        c.due("law " + text, answer, () -> Check.law(x, text));
        c.due("fault of " + text, place, () -> x.fault());
    }

    private static void lawFaults() {
        lawFault("", -9, 0);
        lawFault("   ", -9, 3);
        lawFault("1000", -8, 0);
        lawFault(" 1+ 1000", -8, 4);
        lawFault("1 1000", -9, 2);
        lawFault("2loud", -9, 1);
        lawFault("loud2", -9, 4);
        lawFault("loudfar", -9, 0);
        lawFault("-1", -9, 0);
        lawFault("1+", -9, 2);
        lawFault("1+*2", -9, 2);
        lawFault("(1", -9, 2);
        lawFault("(1]", -9, 2);
        lawFault("1)", -9, 1);
        lawFault("()", -9, 1);
        lawFault("least(1,2)", -9, 5);
        lawFault("least[1;2]", -9, 7);
        lawFault("least[1,2)", -9, 9);
        lawFault("most[1]", -9, 6);
        lawFault("most[1,2,3]", -9, 8);
        lawFault("1;", -9, 1);
        lawFault("((((( (( 1", -7, 7);
        lawFault("(((((( least", -7, 7);
        lawFault("(((((( most 1", -7, 7);
        lawFault("(((((( leas", -9, 7);
        lawFault("least[least[least[least[least[least[ (", -7, 37);
        lawFault("((((((1)))))+(2))", 1, -1);
    }

    private static void work() {
        c.part("promise 5");
        MoodBelfries x = town();
        c.due("work", 4, () -> Check.work(x, "pull 0; bring 1; again 2[hour;]; crack 2;"));
        c.due("refused", 1, () -> x.told(10));
        c.due("a fault", -9, () -> Check.work(x, "pull 0;hour;hour;hour"));
        c.due("none is done", 2, () -> x.told(3));
        c.due("none is done", 1, () -> x.told(11));
        c.due("none is refused", 1, () -> x.told(10));
        c.due("no work", 1, () -> x.count(2));
        c.due("the tape is empty", 0, () -> x.count(1));
        Check.feed(x, times(" ", 160));
        c.wrong("work beyond 150", () -> x.work(151));
        c.wrong("work below 0", () -> x.work(-1));
        c.due("the tape stays", 160, () -> x.count(1));
        c.due("work without steps", 0, () -> x.work(150));
        c.due("is one", 2, () -> x.count(2));
        c.due("and refuses none", 0, () -> x.told(10));
        c.wrong("work beyond the tape", () -> x.work(1));
        for (int i = 3; i <= 16; i++) {
            c.due("work " + i, 1, () -> Check.work(x, "hour;"));
        }
        c.due("a fault of another text", -9, () -> Check.law(x, "+"));
        c.due("its place", 0, () -> x.fault());
        c.due("a 17th", -20, () -> Check.work(x, "pull 9;"));
        c.due("nothing is read", -1, () -> x.fault());
        c.due("the tape is empty", 0, () -> x.count(1));
        c.due("nothing is done", 16, () -> x.count(2));
        c.due("the hour", 16, () -> x.told(3));
        c.wrong("work beyond the tape", () -> x.work(1));
        x.undo();
        c.due("a 16th again", 1, () -> Check.work(x, "hour;"));
    }

    private static void workSteps() {
        MoodBelfries x = town();
        Check.law(x, "loud - far + pulled * 2 + cracks + damp + hour");
        c.due("pull", 1, () -> Check.work(x, "pull 0;"));
        c.due("house 0", 28, () -> x.temper(0, 3));
        c.due("house 1", 22, () -> x.temper(1, 3));
        c.due("house 2", 32, () -> x.temper(2, 3));
        c.due("pull again", 1, () -> Check.work(x, "pull 0;"));
        c.due("house 0", 58, () -> x.temper(0, 3));
        c.due("crack", 3, () -> Check.work(x, "again 5[crack 1;];"));
        c.due("cracks", 3, () -> x.bell(1, 2));
        c.due("gagged", 1, () -> Check.work(x, "gag 1;pull 1;"));
        c.due("gagged", 1, () -> x.bell(1, 3));
        c.due("a gagged one is cracked", 3, () -> Check.work(x, "gag 0;crack 0;pull 0;gag 0;"));
        c.due("no more", 0, () -> x.bell(0, 3));
        c.due("stolen", 1, () -> Check.work(x, "steal 1;steal 1;gag 1;crack 1;pull 1;"));
        c.due("stolen", 1, () -> x.bell(1, 4));
        c.due("still gagged", 1, () -> x.bell(1, 3));
        c.due("refused", 4, () -> x.told(10));
        c.due("brought, and its gag gone", 2, () -> Check.work(x, "bring 1;bring 1;gag 1;"));
        c.due("not gagged", 0, () -> x.bell(1, 3));
        c.due("not stolen", 0, () -> x.bell(1, 4));
        c.due("damp", 1, () -> Check.work(x, "damp 2;damp 9;damp 9;"));
        c.due("damp", 9, () -> x.told(4));
        c.due("pulls by now", 2, () -> x.told(11));
        c.due("hour", 1, () -> Check.work(x, "hour;"));
        c.due("58 less 14 less 1", 43, () -> x.temper(0, 3));
        c.due("no temper stays none", 0, () -> x.temper(0, 0));
    }

    private static void workBounds() {
        MoodBelfries x = new MoodBelfries();
        Check.district(x, "bell 0 60;house 0 0;");
        c.due("temper to 999", 17, () -> Check.work(x, "again 17[pull 0;];"));
        c.due("temper", 999, () -> x.temper(0, 0));
        c.due("undone", 0, () -> x.undo());
        Check.law(x, "99");
        c.due("200 steps", 195, () -> Check.work(x, "again 60[again 60[pull 0;];];"));
        c.due("pulls", 195, () -> x.told(11));
        c.due("behind them nothing", 197, () -> Check.work(x, "again 60[again 60[damp 1;damp 2;];];hour;"));
        c.due("hour", 0, () -> x.told(3));
        c.due("agains without steps count", 60 + 60 + 16, () -> Check.work(x,
                "again 60[again 0[];];again 60[hour;];again 60[pull 0;];again 60[pull 0;];"));
        x.undo();
        for (int i = 0; i < 4; i++) {
            c.due("hours", 199, () -> Check.work(x, "again 50[hour;hour;hour;hour;];"));
        }
        c.due("hours to 900", 900 - 4 * 199, () -> Check.work(x, "again 50[hour;hour;hour;hour;];"));
        c.due("the others are refused", 5 * 199 - 900, () -> x.told(10));
        c.due("900 is the last", 900, () -> x.told(3));
        c.due("refused from 900 on", 0, () -> Check.work(x, "hour;"));
        c.due("refused", 1, () -> x.told(10));
    }

    private static void workFault(String text, int answer, int place) {
        MoodBelfries x = town();
        c.due("work " + text, answer, () -> Check.work(x, text));
        c.due("fault of " + text, place, () -> x.fault());
    }

    private static void workFaults() {
        workFault("", 0, -1);
        workFault("  pull0 ;again1[ ] ; ", 1, -1);
        workFault("pull 3;", -8, 5);
        workFault("crack 3;", -8, 6);
        workFault("gag 3;", -8, 4);
        workFault("steal 3;", -8, 6);
        workFault("bring 3;", -8, 6);
        workFault("damp 10;", -8, 5);
        workFault("again 61[];", -8, 6);
        workFault("again 60[];", 0, -1);
        workFault("hours;", -9, 0);
        workFault("hour 1;", -9, 5);
        workFault("pull;", -9, 4);
        workFault("pull 0", -9, 6);
        workFault("];", -9, 0);
        workFault("again 1[hour;", -9, 13);
        workFault("again 1[hour];", -9, 12);
        workFault("again 1[hour;]", -9, 14);
        workFault("again 1 hour;", -9, 8);
        workFault("again [hour;];", -9, 6);
        workFault(times("again 1[", 6) + "hour;" + times("];", 6), 1, -1);
        workFault(times("again 1[", 6) + " again", -7, 49);
        workFault(times("again 1[", 6) + times("];", 6) + times("again 1[", 6) + times("];", 6), 0, -1);
        workFault(times("again 1[", 6) + "agai", -9, 48);
        MoodBelfries x = new MoodBelfries();
        c.due("pull without bells", -8, () -> Check.work(x, "pull 0;"));
    }

    private static void bookFault(String text, int answer, int place) {
        MoodBelfries x = town();
        c.due("book " + text, answer, () -> Check.book(x, text));
        c.due("fault of " + text, place, () -> x.fault());
    }

    private static void book() {
        c.part("promise 6");
        MoodBelfries x = town();
        c.due("book", 2, () -> Check.book(x, " 2 0 ; 0 99 ; "));
        c.due("lines", 2, () -> x.told(9));
        c.due("a fault", -8, () -> Check.book(x, "1 1;1 1;"));
        c.due("the book stays", 2, () -> x.told(9));
        c.due("another", 1, () -> Check.book(x, "1 1;"));
        c.due("an empty one", 0, () -> x.book(0));
        c.due("lines", 0, () -> x.told(9));
        Check.feed(x, times(" ", 80));
        c.wrong("book beyond 60", () -> x.book(61));
        c.wrong("book below 0", () -> x.book(-1));
        c.due("the tape stays", 80, () -> x.count(1));
        c.due("60 blanks", 0, () -> x.book(60));
        c.wrong("book beyond the tape", () -> x.book(1));
        bookFault("0 1;1 2;2 3;", 3, -1);
        bookFault("3 1;", -8, 0);
        bookFault("0 100;", -8, 2);
        bookFault("0 1;1 1; 0 1;", -8, 9);
        bookFault("0 1;1 1; 0", -8, 9);
        bookFault("0;", -9, 1);
        bookFault("0 1", -9, 3);
        bookFault("x", -9, 0);
        bookFault(";", -9, 0);
        MoodBelfries y = new MoodBelfries();
        c.due("a line without houses", -8, () -> Check.book(y, "0 1;"));
        Check.district(y, times("house 0 0;", 7));
        c.due("seven lines", 7, () -> Check.book(y, "6 1;5 1;4 1;3 1;2 1;1 1;0 1;"));
        c.due("an eighth", -8, () -> Check.book(y, "6 1;5 1;4 1;3 1;2 1;1 1;0 1;3 1;"));
    }

    private static void fault() {
        c.part("promise 7");
        MoodBelfries x = new MoodBelfries();
        c.due("at first", -1, () -> x.fault());
        c.due("a fault", -9, () -> Check.law(x, "1 + ?"));
        c.due("its place", 4, () -> x.fault());
        c.wrong("a call refused", () -> x.law(5));
        c.due("is no text", 4, () -> x.fault());
        x.told(0);
        x.feed(0, 0, 0, 0, 0);
        c.due("nor is any other", 4, () -> x.fault());
        c.due("another", -9, () -> x.book(1));
        c.due("its place", 0, () -> x.fault());
        c.due("a text without", 0, () -> x.work(0));
        c.due("none", -1, () -> x.fault());
    }

    private static void undo() {
        c.part("promise 8");
        MoodBelfries x = town();
        c.due("none", -1, () -> x.undo());
        Check.work(x, "pull 0;gag 1;damp 7;");
        Check.work(x, "hour;crack 0;steal 2;gag 1;bring 0;");
        c.due("undo", 1, () -> x.undo());
        c.due("refused", 0, () -> x.told(10));
        c.due("hour", 0, () -> x.told(3));
        c.due("damp", 7, () -> x.told(4));
        c.due("cracks", 0, () -> x.bell(0, 2));
        c.due("gagged", 1, () -> x.bell(1, 3));
        c.due("stolen", 0, () -> x.told(6));
        c.due("temper", 24, () -> x.temper(0, 3));
        c.due("pulled", 1, () -> x.bell(0, 5));
        c.due("undo", 0, () -> x.undo());
        c.due("damp as told", 2, () -> x.told(4));
        c.due("temper", 0, () -> x.told(8));
        c.due("none", -1, () -> x.undo());
    }

    private static void told() {
        c.part("promise 9");
        MoodBelfries x = town();
        Check.work(x, "again 3[pull 2;];pull 1;gag 1;steal 0;bring 1;hour;damp 4;");
        Check.book(x, "1 1;");
        int[] want = {3, 3, 3, 1, 4, 4, 1, 0, 0, 1, 1, 4};
        want[7] = 0;
        // house 0: 132 of mood 3 and 8 of mood 5, house 1: 87 and 5, house 2: 90 and 6, and an hour.
        want[8] = 98 + 5 + 65 + 3 + 67 + 4;
        for (int what = 0; what <= 11; what++) {
            int w = what;
            c.due("told(" + w + ")", want[w], () -> x.told(w));
        }
        Check.work(x, "damp 2;pull 2;bring 0;");
        c.due("a deed is done", 1, () -> x.told(7));
        c.due("none stolen", 0, () -> x.told(6));
        c.wrong("told(-1)", () -> x.told(-1));
        c.wrong("told(12)", () -> x.told(12));
    }

    private static void bell() {
        c.part("promise 10");
        MoodBelfries x = town();
        Check.work(x, "crack 1;crack 1;pull 1;gag 1;steal 1;");
        int[] want = {5, 20, 2, 1, 1, 1};
        for (int what = 0; what <= 5; what++) {
            int w = what;
            c.due("bell(1, " + w + ")", want[w], () -> x.bell(1, w));
        }
        c.due("bell(2, 1)", 50, () -> x.bell(2, 1));
        c.due("bell(2, 5)", 0, () -> x.bell(2, 5));
        c.noSuch("bell(3, 0)", () -> x.bell(3, 0));
        c.noSuch("bell(-1, 9)", () -> x.bell(-1, 9));
        c.wrong("bell(0, 6)", () -> x.bell(0, 6));
        c.wrong("bell(0, -1)", () -> x.bell(0, -1));
    }

    private static void house() {
        c.part("promise 11");
        MoodBelfries x = town();
        c.due("house(1, 0)", 10, () -> x.house(1, 0));
        c.due("house(1, 1)", 6, () -> x.house(1, 1));
        c.due("no mood", -1, () -> x.house(1, 2));
        c.due("no temper", 0, () -> x.house(1, 3));
        Check.law(x, "10 - bell * house");
        Check.work(x, "pull 1;pull 0;");
        c.due("alike: the least", 3, () -> x.house(0, 2));
        c.due("together", 20, () -> x.house(0, 3));
        Check.work(x, "pull 1;");
        c.due("the most", 5, () -> x.house(0, 2));
        c.noSuch("house(3, 0)", () -> x.house(3, 0));
        c.noSuch("house(-1, 4)", () -> x.house(-1, 4));
        c.wrong("house(0, 4)", () -> x.house(0, 4));
        c.wrong("house(0, -1)", () -> x.house(0, -1));
    }

    private static void deed() {
        c.part("promise 12");
        MoodBelfries x = town();
        c.due("deed(1, 0)", 1, () -> x.deed(1, 0));
        c.due("deed(1, 1)", 5, () -> x.deed(1, 1));
        c.due("deed(1, 2)", 12, () -> x.deed(1, 2));
        c.due("deed(1, 3)", 0, () -> x.deed(1, 3));
        Check.law(x, "11 - pulled * 10");
        Check.work(x, "pull 1;");
        c.due("11 of 12", 0, () -> x.deed(1, 3));
        Check.work(x, "pull 1;");
        c.due("12 of 12", 1, () -> x.deed(1, 3));
        c.due("bits", 2, () -> x.told(7));
        Check.work(x, "hour;");
        c.due("no more", 0, () -> x.deed(1, 3));
        c.noSuch("deed(3, 0)", () -> x.deed(3, 0));
        c.noSuch("deed(-1, 4)", () -> x.deed(-1, 4));
        c.wrong("deed(0, 4)", () -> x.deed(0, 4));
        c.wrong("deed(0, -1)", () -> x.deed(0, -1));
    }

    private static void temper() {
        c.part("promise 13");
        MoodBelfries x = town();
        Check.work(x, "pull 0;pull 1;");
        c.due("temper(0, 3)", 24, () -> x.temper(0, 3));
        c.due("temper(1, 5)", 5, () -> x.temper(1, 5));
        c.due("temper(2, 9)", 0, () -> x.temper(2, 9));
        c.noSuch("temper(3, 0)", () -> x.temper(3, 0));
        c.noSuch("temper(-1, 10)", () -> x.temper(-1, 10));
        c.wrong("temper(0, 10)", () -> x.temper(0, 10));
        c.wrong("temper(0, -1)", () -> x.temper(0, -1));
    }

    private static void heard() {
        c.part("promise 14");
        MoodBelfries x = town();
        c.due("heard(0, 0)", 24, () -> x.heard(0, 0));
        c.due("heard(1, 2)", 6, () -> x.heard(1, 2));
        Check.work(x, "gag 0;steal 1;damp 9;");
        c.due("gagged", 17, () -> x.heard(0, 0));
        c.due("stolen", 0, () -> x.heard(1, 2));
        Check.law(x, "hour * 3 + cracks * 5 + pulled + bell + house");
        Check.work(x, "crack 2;pull 2;pull 2;hour;again 26[hour;];");
        c.due("what is left by 24", 3 * 3 + 5 + 2 + 2 + 1, () -> x.heard(2, 1));
        c.noSuch("heard(3, 0)", () -> x.heard(3, 0));
        c.noSuch("heard(0, 3)", () -> x.heard(0, 3));
        c.noSuch("heard(-1, 0)", () -> x.heard(-1, 0));
        c.noSuch("heard(0, -1)", () -> x.heard(0, -1));
    }

    private static void would() {
        c.part("promise 15");
        MoodBelfries x = new MoodBelfries();
        int[] least = {1, 0, 0, 0, 0, 0, 0, 0, 0};
        int[] most = {60, 30, 9, 3, 9, 999, 23, 6, 6};
        Check.law(x, "loud + far + apart + cracks + damp + pulled / 999 + hour + bell + house - 80");
        c.due("least", 0, () -> wouldBy(x, least));
        c.due("most", 60 + 30 + 9 + 3 + 9 + 1 + 23 + 6 + 6 - 80, () -> wouldBy(x, most));
        for (int i = 0; i < 9; i++) {
            int[] low = least.clone();
            low[i]--;
            c.wrong("argument " + i + " too low", () -> wouldBy(x, low));
            int[] high = most.clone();
            high[i]++;
            c.wrong("argument " + i + " too high", () -> wouldBy(x, high));
        }
        c.due("refused once each", 18, () -> x.status(1));
    }

    private static int wouldBy(MoodBelfries x, int[] a) {
        return x.would(a[0], a[1], a[2], a[3], a[4], a[5], a[6], a[7], a[8]);
    }

    private static void ahead() {
        c.part("promise 16");
        MoodBelfries x = town();
        Check.law(x, "10 * (1 - house) + 100 * (1 - least[house, 1])");
        Check.work(x, "pull 0;");
        // house 0 has 99 (110 is too much), the others 0
        c.due("now", 99, () -> x.ahead(0, 0));
        c.due("in an hour", 74, () -> x.ahead(1, 0));
        c.due("in two", 55, () -> x.ahead(2, 0));
        c.due("houses", 1, () -> x.ahead(2, 1));
        c.due("all sleep", 0, () -> x.ahead(99, 1));
        Check.work(x, "pull 2;");
        c.due("deeds now", 1, () -> x.ahead(0, 2));
        c.due("in an hour", 1, () -> x.ahead(1, 2));
        c.due("198, 148, 110, 82", 1, () -> x.ahead(2, 2));
        c.due("no more", 0, () -> x.ahead(3, 2));
        c.due("nothing stays changed", 198, () -> x.told(8));
        c.due("nor the hour", 0, () -> x.told(3));
        c.wrong("ahead(100, 0)", () -> x.ahead(100, 0));
        c.wrong("ahead(-1, 0)", () -> x.ahead(-1, 0));
        c.wrong("ahead(0, 3)", () -> x.ahead(0, 3));
        c.wrong("ahead(0, -1)", () -> x.ahead(0, -1));
    }

    private static void sleeps() {
        c.part("promise 17");
        MoodBelfries x = town();
        c.due("at once", 0, () -> x.sleeps(0));
        Check.law(x, "house * house * 2");
        Check.work(x, "pull 0;pull 1;");
        c.due("still", 0, () -> x.sleeps(0));
        c.due("2, 1, 0", 2, () -> x.sleeps(1));
        c.due("8, 5, 3, 2, 1, 0", 5, () -> x.sleeps(2));
        c.due("nothing stays changed", 20, () -> x.told(8));
        c.noSuch("sleeps(3)", () -> x.sleeps(3));
        c.noSuch("sleeps(-1)", () -> x.sleeps(-1));
    }

    private static void rouse() {
        c.part("promise 18");
        MoodBelfries x = town();
        // in house 0: 24, 8, 44
        c.due("none needed", 0, () -> x.rouse(0, 0));
        c.due("any: the least bits", 1, () -> x.rouse(0, 1));
        c.due("one", 1, () -> x.rouse(0, 24));
        c.due("one, louder", 4, () -> x.rouse(0, 25));
        c.due("two", 5, () -> x.rouse(0, 53));
        c.due("of as few the least bits", 5, () -> x.rouse(0, 45));
        c.due("all", 7, () -> x.rouse(0, 76));
        c.due("not to be had", -1, () -> x.rouse(0, 77));
        Check.work(x, "steal 0;");
        c.due("one is stolen", 6, () -> x.rouse(0, 45));
        c.due("not to be had", -1, () -> x.rouse(0, 53));
        Check.work(x, "gag 1;gag 2;");
        c.due("none speaks", -1, () -> x.rouse(0, 1));
        c.due("none needed", 0, () -> x.rouse(0, 0));
        c.noSuch("rouse(3, 0)", () -> x.rouse(3, 0));
        c.noSuch("rouse(-1, -1)", () -> x.rouse(-1, -1));
        c.wrong("rouse(0, -1)", () -> x.rouse(0, -1));
        c.wrong("rouse(0, 1000)", () -> x.rouse(0, 1000));
        c.due("rouse(0, 999)", -1, () -> x.rouse(0, 999));
    }

    private static void suit() {
        c.part("promise 19");
        MoodBelfries x = town();
        c.due("suit", 59, () -> x.suit());
        Check.work(x, "gag 0;");
        c.due("without one", 50, () -> x.suit());
        Check.work(x, "steal 2;");
        c.due("one alone", 8, () -> x.suit());
        MoodBelfries y = new MoodBelfries();
        Check.district(y, times("bell 0 60;", 6) + "house 1 0;house 30 0;");
        c.due("more bells than houses", 89, () -> y.suit());
        Check.district(y, "bell 0 60;bell 0 50;" + times("house 0 0;", 7));
        c.due("more houses than bells", 110, () -> y.suit());
        Check.district(y, "bell 0 60;");
        c.due("no houses", 0, () -> y.suit());
    }

    private static void suited() {
        c.part("promise 20");
        MoodBelfries x = town();
        c.due("suited(0)", 0, () -> x.suited(0));
        c.due("suited(1)", 1, () -> x.suited(1));
        c.due("suited(2)", 2, () -> x.suited(2));
        Check.work(x, "gag 0;");
        c.due("gagged", -1, () -> x.suited(0));
        c.due("44 and 6", 2, () -> x.suited(1));
        c.due("44 and 6", 0, () -> x.suited(2));
        Check.law(x, "0");
        c.due("alike: the least house", 0, () -> x.suited(1));
        c.due("alike: the next", 1, () -> x.suited(2));
        MoodBelfries y = new MoodBelfries();
        Check.district(y, "bell 0 9;bell 0 9;bell 0 9;house 0 0;house 0 0;");
        c.due("none last", 0, () -> y.suited(0));
        c.due("none last", 1, () -> y.suited(1));
        c.due("none last", -1, () -> y.suited(2));
        c.noSuch("suited(3)", () -> x.suited(3));
        c.noSuch("suited(-1)", () -> x.suited(-1));
    }

    private static void pulls() {
        c.part("promise 21");
        MoodBelfries x = town();
        c.due("3 of 44", 3, () -> x.pulls(0, 0));
        c.due("by", 2, () -> x.pulls(0, 1));
        c.due("by none", -1, () -> x.pulls(2, 0));
        c.due("by none", -1, () -> x.pulls(2, 1));
        Check.work(x, "steal 2;");
        c.due("5 of 24", 5, () -> x.pulls(0, 0));
        c.due("by", 0, () -> x.pulls(0, 1));
        Check.work(x, "gag 0;");
        c.due("none speaks", -1, () -> x.pulls(0, 0));
        Check.work(x, "gag 0;bring 2;");
        Check.law(x, "4");
        c.due("25 of 4", 25, () -> x.pulls(0, 0));
        c.due("alike: the first", 0, () -> x.pulls(0, 1));
        Check.law(x, "3");
        c.due("more than 30", -1, () -> x.pulls(0, 0));
        Check.law(x, "pulled / 14 * 49 + 1");
        c.due("as it is pulled", 16, () -> x.pulls(0, 0));
        Check.law(x, "10 / 3 + pulled / 29 * 10");
        c.due("30 at most", 30, () -> x.pulls(0, 0));
        Check.law(x, "10 / 3 + pulled / 30 * 10");
        c.due("31 are too many", -1, () -> x.pulls(0, 0));
        c.due("nothing stays changed", 0, () -> x.told(11));
        Check.law(x, "50");
        Check.work(x, "pull 0;pull 0;gag 0;gag 1;gag 2;");
        c.due("it is done", 0, () -> x.pulls(0, 0));
        c.due("by none", -1, () -> x.pulls(0, 1));
        c.noSuch("pulls(3, 0)", () -> x.pulls(3, 0));
        c.noSuch("pulls(-1, 2)", () -> x.pulls(-1, 2));
        c.wrong("pulls(0, 2)", () -> x.pulls(0, 2));
        c.wrong("pulls(0, -1)", () -> x.pulls(0, -1));
    }

    private static void cast() {
        c.part("promise 22");
        MoodBelfries x = town();
        c.due("all", 600, () -> x.cast(0));
        c.due("the first", 1, () -> x.cast(1));
        Check.book(x, "0 24;1 9;");
        c.due("pairs", 4, () -> x.cast(0));
        c.due("the first", 39, () -> x.cast(1));
        Check.law(x, "bell * 10 + cracks + pulled + loud / 60 + apart * 4");
        Check.work(x, "crack 0;pull 0;");
        Check.book(x, "0 61;");
        c.due("number 6, no cracks, never pulled", 1, () -> x.cast(0));
        c.due("the pair", 360, () -> x.cast(1));
        Check.book(x, "0 65;");
        c.due("two moods", 2, () -> x.cast(0));
        c.due("by mood first", 260, () -> x.cast(1));
        Check.law(x, "damp * 10 + hour");
        Check.work(x, "damp 4;hour;");
        Check.book(x, "2 41;");
        c.due("damp and hour by now", 600, () -> x.cast(0));
        Check.book(x, "2 40;");
        c.due("no pair", 0, () -> x.cast(0));
        c.due("no first", -1, () -> x.cast(1));
        c.wrong("cast(2)", () -> x.cast(2));
        c.wrong("cast(-1)", () -> x.cast(-1));
    }

    private static void ask() {
        c.part("promise 23");
        MoodBelfries x = town();
        Check.book(x, "0 24;");
        c.due("house", 1, () -> x.ask(0));
        c.due("left", 4, () -> x.ask(1));
        Check.law(x, "least[house, 1] * loud");
        Check.book(x, "0 0;");
        c.due("of these the first", 1, () -> x.ask(0));
        c.due("left", 10, () -> x.ask(1));
        x.book(0);
        c.due("house 0 tells nothing", 1, () -> x.ask(0));
        Check.book(x, "1 60;2 60;");
        c.due("but there is no other", 0, () -> x.ask(0));
        c.due("left", 10, () -> x.ask(1));
        Check.book(x, "1 60;2 61;");
        c.due("no pairs", 0, () -> x.ask(0));
        c.due("none left", 0, () -> x.ask(1));
        Check.book(x, "1 60;2 60;0 0;");
        c.due("all in lines", -1, () -> x.ask(0));
        c.due("all in lines", -1, () -> x.ask(1));
        MoodBelfries y = new MoodBelfries();
        c.due("no houses", -1, () -> y.ask(0));
        c.due("no houses", -1, () -> y.ask(1));
        c.wrong("ask(2)", () -> x.ask(2));
        c.wrong("ask(-1)", () -> x.ask(-1));
    }

    private static void changes() {
        c.part("promise 24");
        MoodBelfries x = new MoodBelfries();
        int[] three = {0, 1, 1, 2, 2, 3};
        for (int row = 0; row < 6; row++) {
            int r = row;
            c.due("changes(3, " + r + ")", three[r], () -> x.changes(3, r));
        }
        c.due("one bell", 0, () -> x.changes(1, 0));
        c.due("two in one change", 1, () -> x.changes(4, 7));
        c.due("all reversed", 6, () -> x.changes(6, 719));
        int[] many = {1, 2, 6, 24, 120, 720};
        for (int n = 1; n <= 6; n++) {
            int b = n;
            c.wrong("a row too high", () -> x.changes(b, many[b - 1]));
            c.wrong("a row too low", () -> x.changes(b, -1));
        }
        c.wrong("changes(0, 0)", () -> x.changes(0, 0));
        c.wrong("changes(7, 0)", () -> x.changes(7, 0));
    }

    private static void next() {
        c.part("promise 25");
        MoodBelfries x = new MoodBelfries();
        c.due("rounds", 0, () -> x.next(6, 0));
        c.due("one bell", 0, () -> x.next(1, 0));
        c.due("next(3, 5)", 3, () -> x.next(3, 5));
        c.due("next(6, 719)", 592, () -> x.next(6, 719));
        for (int from = 1; from < 720; from += 100) {
            MoodBelfries y = new MoodBelfries();
            for (int row = from; row < Math.min(720, from + 100); row++) {
                int r = row;
                c.due("one less by next(6, " + r + ")", y.changes(6, r) - 1, () -> y.changes(6, y.next(6, r)));
            }
        }
        c.wrong("next(6, 720)", () -> x.next(6, 720));
        c.wrong("next(6, -1)", () -> x.next(6, -1));
        c.wrong("next(0, 0)", () -> x.next(0, 0));
        c.wrong("next(7, 0)", () -> x.next(7, 0));
    }

    private static void within() {
        c.part("promise 26");
        MoodBelfries x = new MoodBelfries();
        int[] changes = {1, 2, 3, 5, 8, 13};
        int[] rows = {1, 2, 6, 24, 120, 720};
        for (int n = 1; n <= 6; n++) {
            int b = n;
            c.due("within none", 1, () -> x.within(b, 0));
            c.due("within one", changes[b - 1], () -> x.within(b, 1));
            c.due("within 15", rows[b - 1], () -> x.within(b, 15));
            c.due("within n", rows[b - 1], () -> x.within(b, b));
        }
        c.due("within(6, 4)", 387, () -> x.within(6, 4));
        c.wrong("within(0, 0)", () -> x.within(0, 0));
        c.wrong("within(7, 0)", () -> x.within(7, 0));
        c.wrong("within(3, -1)", () -> x.within(3, -1));
        c.wrong("within(3, 16)", () -> x.within(3, 16));
    }

    private static void place() {
        c.part("promise 27");
        MoodBelfries x = new MoodBelfries();
        String[] rows = {"012", "021", "102", "120", "201", "210"};
        for (int row = 0; row < 6; row++) {
            for (int place = 0; place < 3; place++) {
                int r = row;
                int p = place;
                c.due("place(3, " + r + ", " + p + ")", rows[r].charAt(p) - '0', () -> x.place(3, r, p));
            }
        }
        c.due("place(6, 719, 0)", 5, () -> x.place(6, 719, 0));
        c.due("place(6, 718, 5)", 1, () -> x.place(6, 718, 5));
        c.wrong("place(3, 0, 3)", () -> x.place(3, 0, 3));
        c.wrong("place(3, 0, -1)", () -> x.place(3, 0, -1));
        c.wrong("place(3, 6, 0)", () -> x.place(3, 6, 0));
        c.wrong("place(0, 0, 0)", () -> x.place(0, 0, 0));
        c.wrong("place(7, 0, 0)", () -> x.place(7, 0, 0));
    }

    private static void ringers() {
        c.part("promise 28");
        MoodBelfries x = new MoodBelfries();
        c.due("ringers(5, 3, 0)", 2, () -> x.ringers(5, 3, 0));
        c.due("ringers(5, 3, 1)", 1, () -> x.ringers(5, 3, 1));
        c.due("ringers(5, 3, 2)", 8, () -> x.ringers(5, 3, 2));
        c.due("nobody would have more", 3, () -> x.ringers(99, 0, 0));
        c.due("ringers(99, 99, 2)", 198, () -> x.ringers(99, 99, 2));
        c.wrong("ringers(100, 0, 0)", () -> x.ringers(100, 0, 0));
        c.wrong("ringers(-1, 0, 0)", () -> x.ringers(-1, 0, 0));
        c.wrong("ringers(0, 100, 0)", () -> x.ringers(0, 100, 0));
        c.wrong("ringers(0, -1, 0)", () -> x.ringers(0, -1, 0));
        c.wrong("ringers(0, 0, 3)", () -> x.ringers(0, 0, 3));
        c.wrong("ringers(0, 0, -1)", () -> x.ringers(0, 0, -1));
    }

    private static void sounds() {
        c.part("promise 29");
        MoodBelfries x = new MoodBelfries();
        c.due("3 of 8", 3, () -> x.sounds(3, 1, 8, 0));
        c.due("3 of 8", 8, () -> x.sounds(3, 1, 8, 1));
        c.due("(5/16)^3 (11/16)^9 220", 16210890375625L, () -> x.sounds(12, 3, 5, 0));
        c.due("16^12 by 4", 70368744177664L, () -> x.sounds(12, 3, 5, 1));
        c.due("none of none", 1, () -> x.sounds(0, 0, 16, 0));
        c.due("none of none", 1, () -> x.sounds(0, 0, 16, 1));
        c.due("more than there are", 0, () -> x.sounds(3, 4, 8, 0));
        c.due("more than there are", 1, () -> x.sounds(3, 4, 8, 1));
        c.due("surely all", 1, () -> x.sounds(12, 12, 16, 0));
        c.due("surely none", 1, () -> x.sounds(12, 0, 0, 0));
        c.due("never", 0, () -> x.sounds(12, 1, 0, 0));
        c.due("16^12", 281474976710656L, () -> x.sounds(12, 0, 1, 1));
        c.wrong("sounds(13, 0, 0, 0)", () -> x.sounds(13, 0, 0, 0));
        c.wrong("sounds(-1, 0, 0, 0)", () -> x.sounds(-1, 0, 0, 0));
        c.wrong("sounds(0, 13, 0, 0)", () -> x.sounds(0, 13, 0, 0));
        c.wrong("sounds(0, -1, 0, 0)", () -> x.sounds(0, -1, 0, 0));
        c.wrong("sounds(0, 0, 17, 0)", () -> x.sounds(0, 0, 17, 0));
        c.wrong("sounds(0, 0, -1, 0)", () -> x.sounds(0, 0, -1, 0));
        c.wrong("sounds(0, 0, 0, 2)", () -> x.sounds(0, 0, 0, 2));
        c.wrong("sounds(0, 0, 0, -1)", () -> x.sounds(0, 0, 0, -1));
    }

    private static void metal() {
        c.part("promise 30");
        MoodBelfries x = town();
        // loud 30, 20, 50
        c.due("all alike", 20, () -> x.metal(0, 7, 60));
        c.due("no more than loud", 20, () -> x.metal(1, 7, 999));
        c.due("all", 50, () -> x.metal(2, 7, 100));
        c.due("a bound", 49, () -> x.metal(2, 7, 99));
        c.due("no more than n are given", 20, () -> x.metal(2, 7, 61));
        c.due("20 and 21 and 21", 21, () -> x.metal(2, 7, 62));
        c.due("nothing", 0, () -> x.metal(0, 7, 2));
        c.due("nothing of nothing", 0, () -> x.metal(0, 7, 0));
        c.due("none of them", 0, () -> x.metal(2, 3, 99));
        c.due("no bells told", 0, () -> x.metal(2, 0, 99));
        c.due("alone", 9, () -> x.metal(2, 4, 9));
        Check.work(x, "steal 2;");
        c.due("stolen or not", 9, () -> x.metal(2, 4, 9));
        c.noSuch("metal(3, 1, 0)", () -> x.metal(3, 1, 0));
        c.noSuch("metal(-1, 8, -1)", () -> x.metal(-1, 8, -1));
        c.wrong("metal(0, 8, 0)", () -> x.metal(0, 8, 0));
        c.wrong("metal(0, -1, 0)", () -> x.metal(0, -1, 0));
        c.wrong("metal(0, 1, -1)", () -> x.metal(0, 1, -1));
        c.wrong("metal(0, 1, 1000)", () -> x.metal(0, 1, 1000));
    }

    private static void loudest() {
        c.part("promise 31");
        MoodBelfries none = new MoodBelfries();
        c.due("no house", -1, () -> none.loudest(0));
        c.due("no house", -1, () -> none.loudest(1));
        MoodBelfries x = town();
        noneIsLoudest("houses, but no temper", x);
        Check.law(x, "bell * 7 + least[house, 1] * 5");
        Check.work(x, "pull 0;pull 1;");
        c.due("alike: the first", 1, () -> x.loudest(0));
        c.due("how much", 17, () -> x.loudest(1));
        x.undo();
        noneIsLoudest("undone", x);
        Check.law(x, "house / 2");
        Check.work(x, "pull 0;");
        c.due("the last alone", 2, () -> x.loudest(0));
        c.due("the least there is", 1, () -> x.loudest(1));
        Check.work(x, "hour;");
        noneIsLoudest("gone by an hour", x);
        Check.law(x, "0");
        Check.work(x, "pull 0;");
        noneIsLoudest("pulled, but not heard", x);
        c.wrong("loudest(2)", () -> x.loudest(2));
        c.wrong("loudest(-1)", () -> x.loudest(-1));
    }

    private static void noneIsLoudest(String why, MoodBelfries x) {
        c.due(why + ": no house", -1, () -> x.loudest(0));
        c.due(why + ": not how much", -1, () -> x.loudest(1));
    }

    private static void deaf() {
        c.part("promise 32");
        MoodBelfries x = town();
        c.due("none", 0, () -> x.deaf(0));
        Check.work(x, "damp 8;gag 1;");
        c.due("gagged: 2, less than 0, 0", 6, () -> x.deaf(1));
        Check.work(x, "steal 1;");
        c.due("stolen or not", 6, () -> x.deaf(1));
        Check.law(x, "house % 2 - 1 + least[house, 1]");
        c.due("less than 0, 1, 0", 5, () -> x.deaf(0));
        c.noSuch("deaf(3)", () -> x.deaf(3));
        c.noSuch("deaf(-1)", () -> x.deaf(-1));
    }

    private static void kin() {
        c.part("promise 33");
        MoodBelfries x = town();
        c.due("kin(3)", 5, () -> x.kin(3));
        c.due("kin(5)", 2, () -> x.kin(5));
        c.due("kin(0)", 0, () -> x.kin(0));
        c.due("kin(9)", 0, () -> x.kin(9));
        Check.work(x, "steal 0;gag 1;");
        c.due("stolen", 4, () -> x.kin(3));
        c.due("gagged", 0, () -> x.kin(5));
        c.wrong("kin(10)", () -> x.kin(10));
        c.wrong("kin(-1)", () -> x.kin(-1));
    }

    private static int draw(int[] seed, int by) {
        seed[0] = seed[0] * 1103515245 + 12345;
        return (seed[0] >> 16 & 32767) % by;
    }

    private static void century() {
        c.part("promise 34");
        for (int i = 0; i < 20; i++) {
            int seed = i * 123456789 - 3;
            int hours = 1 + i * 89 / 19;
            int q = i % 17;
            MoodBelfries z = town();
            Check.work(z, "pull 0;gag 1;");
            int[] want = lived(z, seed, hours, q);
            for (int what = 0; what < 4; what++) {
                int w = what;
                c.due("century(" + seed + ", " + hours + ", " + q + ", " + w + ")", want[w],
                        () -> z.century(seed, hours, q, w));
            }
            c.due("nothing stays changed", 1, () -> z.told(11));
            c.due("nor the hour", 0, () -> z.told(3));
        }
        MoodBelfries x = town();
        MoodBelfries y = new MoodBelfries();
        Check.district(y, "house 0 0;");
        c.due("without bells", 0, () -> y.century(1, 96, 16, 2));
        c.wrong("hours 0", () -> x.century(0, 0, 0, 0));
        c.wrong("hours 97", () -> x.century(0, 97, 0, 0));
        c.wrong("q -1", () -> x.century(0, 1, -1, 0));
        c.wrong("q 17", () -> x.century(0, 1, 17, 0));
        c.wrong("what -1", () -> x.century(0, 1, 0, -1));
        c.wrong("what 4", () -> x.century(0, 1, 0, 4));
    }

    /** The same hours as WORKS of six hours each, and the state ahead of them brought back. */
    private static int[] lived(MoodBelfries x, int seed, int hours, int q) {
        x.image();
        int[] drawn = {seed};
        int pullsBefore = x.told(11);
        StringBuilder text = new StringBuilder();
        for (int i = 0; i < hours; i++) {
            int bell = draw(drawn, 3);
            text.append("pull").append(bell).append(';');
            if (draw(drawn, 16) < q) {
                boolean stolen = (x.told(6) >> bell & 1) == 1 ^ turned(text, bell);
                text.append(stolen ? "bring" : "steal").append(bell).append(';');
            }
            if (draw(drawn, 16) < q) {
                text.append("damp").append(draw(drawn, 10)).append(';');
            }
            text.append("hour;");
            if (i % 6 == 5 || i == hours - 1) {
                Check.work(x, text.toString());
                text.setLength(0);
            }
        }
        int[] end = {x.told(8), x.told(5), x.told(11) - pullsBefore, x.ahead(0, 1)};
        x.restore();
        return end;
    }

    /** Whether a bell was stolen or brought an odd number of times by these steps. */
    private static boolean turned(StringBuilder text, int bell) {
        String steps = text.toString();
        int turns = steps.split("steal" + bell, -1).length + steps.split("bring" + bell, -1).length;
        return turns % 2 == 1;
    }

    private static void span() {
        c.part("promise 35");
        MoodBelfries x = town();
        Check.work(x, "gag 1;");
        int most = 0;
        int fewest = 99;
        int moody = 0;
        for (int i = 0; i < 20; i++) {
            int seed = Integer.MAX_VALUE - 5 + i;
            int pulls = x.century(seed, 12, 9, 2);
            most = Math.max(most, pulls);
            fewest = Math.min(fewest, pulls);
            moody += x.century(seed, 12, 9, 3) >> 1 & 1;
        }
        long[] want = {fewest, most, moody};
        for (int what = 0; what < 3; what++) {
            int w = what;
            c.due("span " + w, want[w], () -> x.span(Integer.MAX_VALUE - 5, 20, 12, 9, w, 1));
            c.wrong("no such house", () -> x.span(0, 1, 1, 0, w, 3));
            c.wrong("no such house", () -> x.span(0, 1, 1, 0, w, -1));
        }
        c.due("they differ", 1, () -> want[0] < want[1] && want[2] > 0 && want[2] < 20 ? 1 : 0);
        c.due("one seed", x.century(7, 30, 0, 2), () -> x.span(7, 1, 30, 0, 0, 0));
        c.due("the bounds", x.century(7, 96, 16, 2), () -> x.span(7, 1, 96, 16, 1, 2));
        c.wrong("many 0", () -> x.span(0, 0, 1, 0, 0, 0));
        c.wrong("many 21", () -> x.span(0, 21, 1, 0, 0, 0));
        c.wrong("hours 0", () -> x.span(0, 1, 0, 0, 0, 0));
        c.wrong("hours 97", () -> x.span(0, 1, 97, 0, 0, 0));
        c.wrong("q 17", () -> x.span(0, 1, 1, 17, 0, 0));
        c.wrong("q -1", () -> x.span(0, 1, 1, -1, 0, 0));
        c.wrong("what 3", () -> x.span(0, 1, 1, 0, 3, 0));
        c.wrong("what -1", () -> x.span(0, 1, 1, 0, -1, 0));
        c.due("none was missing", 0, () -> x.status(0));
    }

    private static void image() {
        c.part("promise 36");
        MoodBelfries x = town();
        c.due("image", 1, () -> x.image());
        c.due("image", 2, () -> x.image());
        c.due("image", 3, () -> x.image());
        c.due("a fourth", -1, () -> x.image());
        c.due("images", 3, () -> x.count(0));
        x.restore();
        Check.work(x, "pull 0;bring 0;");
        c.due("image", 3, () -> x.image());
        c.due("refused stays", 1, () -> x.told(10));
    }

    private static void restore() {
        c.part("promise 37");
        MoodBelfries x = town();
        c.due("none", -1, () -> x.restore());
        Check.work(x, "pull 0;hour;");
        Check.work(x, "damp 4;crack 1;");
        x.image();
        x.undo();
        x.undo();
        Check.work(x, "pull 2;bring 0;");
        c.due("refused", 1, () -> x.told(10));
        x.image();
        Check.work(x, "steal 0;gag 2;bring 1;");
        c.due("refused", 1, () -> x.told(10));
        Check.law(x, "8");
        Check.book(x, "0 1;");
        Check.feed(x, "1");
        c.due("restore", 1, () -> x.restore());
        c.due("refused", 0, () -> x.told(10));
        c.due("works", 1, () -> x.count(2));
        c.due("temper", 44, () -> x.temper(0, 3));
        c.due("stolen", 0, () -> x.told(6));
        c.due("the law stays", 8, () -> x.heard(0, 0));
        c.due("the book stays", 1, () -> x.told(9));
        c.due("the tape stays", 20, () -> x.count(1));
        c.due("restore", 0, () -> x.restore());
        c.due("works", 2, () -> x.count(2));
        c.due("hour", 1, () -> x.told(3));
        c.due("damp", 4, () -> x.told(4));
        c.due("temper", 17, () -> x.temper(0, 3));
        c.due("pulled", 0, () -> x.bell(2, 5));
        c.due("undo as in the image", 1, () -> x.undo());
        c.due("damp", 2, () -> x.told(4));
        c.due("hour", 1, () -> x.told(3));
        c.due("temper", 17, () -> x.temper(0, 3));
        c.due("undo as in the image", 0, () -> x.undo());
        c.due("temper", 0, () -> x.told(8));
        c.due("none", -1, () -> x.restore());
    }

    private static void status() {
        c.part("promise 38");
        MoodBelfries x = town();
        c.noSuch("bell(9, 9)", () -> x.bell(9, 9));
        x.image();
        c.wrong("told(99)", () -> x.told(99));
        c.wrong("told(99)", () -> x.told(99));
        c.due("status(0)", 1, () -> x.status(0));
        c.due("status(1)", 2, () -> x.status(1));
        x.restore();
        c.due("no image keeps it", 2, () -> x.status(1));
        x.district(0);
        c.due("nor a district", 2, () -> x.status(1));
        Check.law(x, "?");
        c.due("a fault is none", 2, () -> x.status(1));
        c.due("others", -1, () -> x.status(2));
        c.due("others", -1, () -> x.status(-1));
    }

    private static void count() {
        c.part("promise 39");
        MoodBelfries x = town();
        x.image();
        Check.work(x, "hour;");
        Check.work(x, "hour;");
        x.feed(0, 0, 0, 0, 0);
        c.due("images", 1, () -> x.count(0));
        c.due("bytes", 20, () -> x.count(1));
        c.due("works", 2, () -> x.count(2));
        c.due("others", -1, () -> x.count(3));
        c.due("others", -1, () -> x.count(-1));
    }
}
