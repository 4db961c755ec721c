import java.util.Arrays;
import java.util.NoSuchElementException;

/**
 * Belfries that keep the moods of a district. The words in capitals are those of the document.
 *
 * <p>All rows are made with the object and used again, so that no call makes an object but the
 * exception that it throws.
 */
public final class MoodBelfries {
    public static final int NONE = -1;

    private static final int MOST_BELLS = 6;
    private static final int MOST_HOUSES = 7;
    private static final int MOST_DEEDS = 8;
    private static final int MOST_CLAUSES = 60;
    private static final int MOST_LOUD = 60;
    private static final int MOST_FAR = 30;
    private static final int MOODS = 10;

    private static final int MOST_TAPE = 600;
    private static final int BYTES_A_FEED = 20;
    private static final int MOST_TEXT = 150;
    private static final int MOST_BOOK = 60;
    private static final int MOST_OPEN = 6;
    private static final int CANT_STAND = 1;
    private static final int NONE_SUCH = 2;
    private static final int TOO_MANY = 3;

    private static final int MOST_HEARD = 99;
    private static final int MOST_TEMPER = 999;
    private static final int MOST_CRACKS = 3;
    private static final int MOST_DAMP = 9;
    private static final int LAST_HOUR = 900;
    private static final int HOURS_A_DAY = 24;
    private static final int MOST_AHEAD = 99;
    private static final int MOST_PULLS = 30;
    private static final int MOST_BEGUN = 200;
    private static final int MOST_WORKS = 16;
    private static final int MOST_IMAGES = 3;
    private static final int WORKS_FULL = -20;

    private static final String CLAUSE_WORDS = "bell house deed damp";
    private static final int BELL_CLAUSE = 0;
    private static final int HOUSE_CLAUSE = 1;
    private static final int DEED_CLAUSE = 2;

    private static final String STEP_WORDS = "pull crack gag steal bring damp hour again";
    private static final int PULL = 0;
    private static final int CRACK = 1;
    private static final int GAG = 2;
    private static final int STEAL = 3;
    private static final int BRING = 4;
    private static final int DAMPEN = 5;
    private static final int PASS_HOUR = 6;
    private static final int AGAIN = 7;

    private static final String LAW_WORDS =
            "loud far apart cracks damp pulled hour bell house least most";
    private static final int LOUD = 0;
    private static final int FAR = 1;
    private static final int APART = 2;
    private static final int CRACKS = 3;
    private static final int DAMP = 4;
    private static final int PULLED = 5;
    private static final int HOUR = 6;
    private static final int BELL = 7;
    private static final int HOUSE = 8;
    private static final int LEAST_WORD = 9;
    private static final int KNOWN = 9;

    private final Tape tape = new Tape();
    private final Town town = new Town();
    private final Work days = new Work();
    private final Diary diary = new Diary();
    private final Diary[] images = new Diary[MOST_IMAGES];
    private int imagesKept;
    private int stepsRefused;
    private int callsForMissing;
    private int callsThatWereWrong;
    private final State trial = new State();
    private final Foundry foundry = new Foundry();
    private final Rows rows = new Rows();
    private final Match match = new Match();
    private final Century drawn = new Century();

    public MoodBelfries() {
        for (int i = 0; i < MOST_IMAGES; i++) {
            images[i] = new Diary();
        }
    }

    public int feed(int a, int b, int c, int d, int e) {
        if (tape.size + BYTES_A_FEED > MOST_TAPE) {
            return NONE;
        }
        tape.put(a);
        tape.put(b);
        tape.put(c);
        tape.put(d);
        tape.put(e);
        return tape.size;
    }

    public int district(int n) throws IllegalArgumentException {
        needText(n, MOST_TAPE);
        tape.begin(n);
        if (!town.toldDraft.read(tape)) {
            return tape.faultAnswer();
        }
        town.takeDistrict();
        diary.clear(town.told.damp);
        foundry.clear();
        imagesKept = 0;
        stepsRefused = 0;
        return town.told.bells;
    }

    public int law(int n) throws IllegalArgumentException {
        needText(n, MOST_TEXT);
        tape.begin(n);
        if (!town.lawDraft.read(tape)) {
            return tape.faultAnswer();
        }
        town.takeLaw();
        return 1;
    }

    public int work(int n) throws IllegalArgumentException {
        needText(n, MOST_TEXT);
        if (diary.works >= MOST_WORKS) {
            tape.begin(0);
            return WORKS_FULL;
        }
        tape.begin(n);
        if (!days.read(tape, town.told.bells)) {
            return tape.faultAnswer();
        }
        diary.keep();
        days.start();
        days.run(town, diary.now, 0, days.size);
        stepsRefused = days.refused;
        return days.done;
    }

    public int book(int n) throws IllegalArgumentException {
        needText(n, MOST_BOOK);
        tape.begin(n);
        if (!foundry.read(tape, town.told.houses)) {
            return tape.faultAnswer();
        }
        return foundry.lines;
    }

    public int fault() {
        return tape.faultPlace;
    }

    public int undo() {
        if (!diary.takeBack()) {
            return NONE;
        }
        stepsRefused = 0;
        return diary.works;
    }

    public int told(int what) throws IllegalArgumentException {
        need(what >= 0 && what <= 11);
        switch (what) {
            case 0: return town.told.bells;
            case 1: return town.told.houses;
            case 2: return town.told.deeds;
            case 3: return diary.now.hour;
            case 4: return diary.now.damp;
            case 5: return town.speaking(diary.now);
            case 6: return diary.now.stolen;
            case 7: return town.deedsDone(diary.now);
            case 8: return diary.now.temperOfAll();
            case 9: return foundry.lines;
            case 10: return stepsRefused;
            default: return diary.now.pullsOfAll();
        }
    }

    public int bell(int bell, int what) throws NoSuchElementException, IllegalArgumentException {
        needBell(bell);
        need(what >= 0 && what <= 5);
        switch (what) {
            case 0: return town.told.mood[bell];
            case 1: return town.told.loud[bell];
            case 2: return diary.now.cracks[bell];
            case 3: return diary.now.gagged >> bell & 1;
            case 4: return diary.now.stolen >> bell & 1;
            default: return diary.now.pulled[bell];
        }
    }

    public int house(int house, int what) throws NoSuchElementException, IllegalArgumentException {
        needHouse(house);
        need(what >= 0 && what <= 3);
        switch (what) {
            case 0: return town.told.far[house];
            case 1: return town.told.ear[house];
            case 2: return diary.now.moodIn(house);
            default: return diary.now.temperIn(house);
        }
    }

    public int deed(int deed, int what) throws NoSuchElementException, IllegalArgumentException {
        needDeed(deed);
        need(what >= 0 && what <= 3);
        switch (what) {
            case 0: return town.told.deedHouse[deed];
            case 1: return town.told.deedMood[deed];
            case 2: return town.told.deedNeed[deed];
            default: return town.deedsDone(diary.now) >> deed & 1;
        }
    }

    public int temper(int house, int mood) throws NoSuchElementException, IllegalArgumentException {
        needHouse(house);
        need(mood >= 0 && mood < MOODS);
        return diary.now.temper[house * MOODS + mood];
    }

    public int heard(int bell, int house) throws NoSuchElementException {
        needBell(bell);
        needHouse(house);
        return town.reach(diary.now, bell, house);
    }

    public int would(int loud, int far, int apart, int cracks, int damp, int pulled, int hour,
            int bell, int house) throws IllegalArgumentException {
        need(loud >= 1 && loud <= MOST_LOUD);
        need(far >= 0 && far <= MOST_FAR);
        need(apart >= 0 && apart < MOODS);
        need(cracks >= 0 && cracks <= MOST_CRACKS);
        need(damp >= 0 && damp <= MOST_DAMP);
        need(pulled >= 0 && pulled <= 999);
        need(hour >= 0 && hour < HOURS_A_DAY);
        need(bell >= 0 && bell <= MOST_BELLS);
        need(house >= 0 && house < MOST_HOUSES);
        int[] known = town.known;
        known[LOUD] = loud;
        known[FAR] = far;
        known[APART] = apart;
        known[CRACKS] = cracks;
        known[DAMP] = damp;
        known[PULLED] = pulled;
        known[HOUR] = hour;
        known[BELL] = bell;
        known[HOUSE] = house;
        return town.law.heardBy(known);
    }

    public int ahead(int n, int what) throws IllegalArgumentException {
        need(n >= 0 && n <= MOST_AHEAD);
        need(what >= 0 && what <= 2);
        trial.copyFrom(diary.now);
        for (int i = 0; i < n; i++) {
            trial.passHour();
        }
        switch (what) {
            case 0: return trial.temperOfAll();
            case 1: return trial.housesWithMood();
            default: return town.deedsDone(trial);
        }
    }

    public int sleeps(int house) throws NoSuchElementException {
        needHouse(house);
        trial.copyFrom(diary.now);
        for (int hours = 0; hours <= MOST_AHEAD; hours++) {
            if (trial.temperIn(house) == 0) {
                return hours;
            }
            trial.passHour();
        }
        return NONE;
    }

    public int rouse(int house, int n) throws NoSuchElementException, IllegalArgumentException {
        needHouse(house);
        need(n >= 0 && n <= 999);
        return town.fewestHeard(diary.now, house, n);
    }

    public int suit() {
        return match.best(town, diary.now);
    }

    public int suited(int bell) throws NoSuchElementException {
        needBell(bell);
        match.best(town, diary.now);
        return match.given[bell];
    }

    public int pulls(int deed, int what) throws NoSuchElementException, IllegalArgumentException {
        needDeed(deed);
        need(what >= 0 && what <= 1);
        if ((town.deedsDone(diary.now) >> deed & 1) == 1) {
            return what == 0 ? 0 : NONE;
        }
        int fewest = NONE;
        int by = NONE;
        for (int bell = 0; bell < town.told.bells; bell++) {
            int often = town.pullsFor(diary.now, trial, deed, bell);
            if (often != NONE && (fewest == NONE || often < fewest)) {
                fewest = often;
                by = bell;
            }
        }
        return what == 0 ? fewest : by;
    }

    public int cast(int what) throws IllegalArgumentException {
        need(what >= 0 && what <= 1);
        foundry.guess(town, diary.now);
        return what == 0 ? foundry.pairs : foundry.first;
    }

    public int ask(int what) throws IllegalArgumentException {
        need(what >= 0 && what <= 1);
        foundry.guess(town, diary.now);
        foundry.choose(town.told.houses);
        return what == 0 ? foundry.askHouse : foundry.askLeft;
    }

    public int changes(int n, int row) throws IllegalArgumentException {
        needRow(n, row);
        return rows.longOf(n, row);
    }

    public int next(int n, int row) throws IllegalArgumentException {
        needRow(n, row);
        return rows.nearer(n, row);
    }

    public int within(int n, int k) throws IllegalArgumentException {
        need(n >= 1 && n <= MOST_BELLS);
        need(k >= 0 && k <= 15);
        int many = 0;
        for (int row = 0; row < Rows.MANY[n]; row++) {
            if (rows.longOf(n, row) <= k) {
                many++;
            }
        }
        return many;
    }

    public int place(int n, int row, int place) throws IllegalArgumentException {
        needRow(n, row);
        need(place >= 0 && place < n);
        return rows.bellAt(n, row, place);
    }

    public int ringers(int v, int w, int what) throws IllegalArgumentException {
        need(v >= 0 && v <= 99);
        need(w >= 0 && w <= 99);
        need(what >= 0 && what <= 2);
        int many = 0;
        int first = NONE;
        int together = 0;
        for (int one = 0; one <= 1; one++) {
            for (int other = 0; other <= 1; other++) {
                if (!rests(one, other, v, w)) {
                    continue;
                }
                if (many == 0) {
                    first = 10 * one + other;
                    together = gain(one, other, v, w) + gain(other, one, v, w);
                }
                many++;
            }
        }
        return what == 0 ? many : what == 1 ? first : together;
    }

    public long sounds(int n, int k, int q, int part) throws IllegalArgumentException {
        need(n >= 0 && n <= 12);
        need(k >= 0 && k <= 12);
        need(q >= 0 && q <= 16);
        need(part >= 0 && part <= 1);
        long above = waysToChoose(n, k);
        long below = 1;
        for (int i = 0; i < n; i++) {
            above *= i < k ? q : 16 - q;
            below *= 16;
        }
        // The divisor is a power of 2, so that halving alone brings it to least terms.
        for (; below > 1 && above % 2 == 0; below /= 2) {
            above /= 2;
        }
        return part == 0 ? above : below;
    }

    public int metal(int bell, int bells, int n)
            throws NoSuchElementException, IllegalArgumentException {
        needBell(bell);
        need(bells >= 0 && bells < 1 << town.told.bells);
        need(n >= 0 && n <= 999);
        if ((bells >> bell & 1) == 0) {
            return 0;
        }
        return Math.min(town.told.loud[bell], town.level(bells, n));
    }

    public int loudest(int what) throws IllegalArgumentException {
        need(what >= 0 && what <= 1);
        int loudest = NONE;
        int most = 0;
        for (int house = 0; house < town.told.houses; house++) {
            int temper = diary.now.temperIn(house);
            if (temper > most) {
                most = temper;
                loudest = house;
            }
        }
        // Without TEMPER there is no such HOUSE, and then NONE tells how much, too.
        return what == 0 || loudest == NONE ? loudest : most;
    }

    public int deaf(int bell) throws NoSuchElementException {
        needBell(bell);
        int bits = 0;
        for (int house = 0; house < town.told.houses; house++) {
            if (town.reach(diary.now, bell, house) == 0) {
                bits |= 1 << house;
            }
        }
        return bits;
    }

    public int kin(int mood) throws IllegalArgumentException {
        need(mood >= 0 && mood < MOODS);
        int bits = 0;
        for (int bell = 0; bell < town.told.bells; bell++) {
            if (town.told.mood[bell] == mood && diary.now.canSpeak(bell)) {
                bits |= 1 << bell;
            }
        }
        return bits;
    }

    public int century(int seed, int hours, int q, int what) throws IllegalArgumentException {
        need(hours >= 1 && hours <= 96);
        need(q >= 0 && q <= 16);
        need(what >= 0 && what <= 3);
        drawn.live(town, diary.now, seed, hours, q);
        switch (what) {
            case 0: return drawn.then.temperOfAll();
            case 1: return town.speaking(drawn.then);
            case 2: return drawn.pullsMade;
            default: return drawn.then.housesWithMood();
        }
    }

    public int span(int seed, int many, int hours, int q, int what, int house)
            throws IllegalArgumentException {
        need(many >= 1 && many <= 20);
        need(hours >= 1 && hours <= 96);
        need(q >= 0 && q <= 16);
        need(what >= 0 && what <= 2);
        need(house >= 0 && house < town.told.houses);
        int fewest = Integer.MAX_VALUE;
        int most = 0;
        int withMood = 0;
        for (int i = 0; i < many; i++) {
            drawn.live(town, diary.now, seed + i, hours, q);
            fewest = Math.min(fewest, drawn.pullsMade);
            most = Math.max(most, drawn.pullsMade);
            if (drawn.then.moodIn(house) != NONE) {
                withMood++;
            }
        }
        return what == 0 ? fewest : what == 1 ? most : withMood;
    }

    public int image() {
        if (imagesKept >= MOST_IMAGES) {
            return NONE;
        }
        images[imagesKept].copyFrom(diary);
        imagesKept++;
        return imagesKept;
    }

    public int restore() {
        if (imagesKept <= 0) {
            return NONE;
        }
        imagesKept--;
        diary.copyFrom(images[imagesKept]);
        stepsRefused = 0;
        return imagesKept;
    }

    public int status(int what) {
        return what == 0 ? callsForMissing : what == 1 ? callsThatWereWrong : NONE;
    }

    public int count(int what) {
        switch (what) {
            case 0: return imagesKept;
            case 1: return tape.size;
            case 2: return diary.works;
            default: return NONE;
        }
    }

    private void need(boolean fine) {
        if (!fine) {
            callsThatWereWrong++;
            throw new IllegalArgumentException("an argument out of its bounds");
        }
    }

    private void needThere(int number, int many) {
        if (number < 0 || number >= many) {
            callsForMissing++;
            throw new NoSuchElementException("no such bell, house or deed");
        }
    }

    private void needBell(int bell) {
        needThere(bell, town.told.bells);
    }

    private void needHouse(int house) {
        needThere(house, town.told.houses);
    }

    private void needDeed(int deed) {
        needThere(deed, town.told.deeds);
    }

    private void needText(int n, int most) {
        need(n >= 0 && n <= tape.size && n <= most);
    }

    private void needRow(int n, int row) {
        need(n >= 1 && n <= MOST_BELLS);
        need(row >= 0 && row < Rows.MANY[n]);
    }

    /** What one of two ringers has who does mine (0 rings, 1 listens) while the other does his. */
    private static int gain(int mine, int his, int v, int w) {
        if (mine == 0) {
            return his == 0 ? -1 : w;
        }
        return his == 0 ? v : 0;
    }

    private static boolean rests(int one, int other, int v, int w) {
        return gain(one, other, v, w) >= gain(1 - one, other, v, w)
                && gain(other, one, v, w) >= gain(1 - other, one, v, w);
    }

    private static long waysToChoose(int n, int k) {
        long ways = 1;
        for (int i = 0; i < k; i++) {
            // The product of i + 1 neighbours is divided by (i + 1)! here, so nothing is cut.
            ways = ways * (n - i) / (i + 1);
        }
        return ways;
    }

    /** The TAPE, and how the latest text from it is read, from the left to its first FAULT. */
    private static final class Tape {
        private final byte[] bytes = new byte[MOST_TAPE];
        private int size;
        private int length;
        private int at;
        private int start;
        private int open;
        private int faultKind;
        private int faultPlace = NONE;

        void put(int number) {
            for (int shift = 24; shift >= 0 && size < MOST_TAPE; shift -= 8) {
                bytes[size] = (byte) (number >> shift);
                size++;
            }
        }

        /** The TAPE is empty from here on; its first n bytes stay to be read until the next feed. */
        void begin(int n) {
            size = 0;
            length = Math.max(0, Math.min(n, MOST_TAPE));
            start = 0;
            open = 0;
            faultKind = 0;
            faultPlace = NONE;
            goOn(0);
        }

        /** Blanks are passed here alone, so that a text's next part always stands at its place. */
        private void goOn(int to) {
            at = to;
            while (at < length && bytes[at] == ' ') {
                at++;
            }
        }

        /** Always false, so that a reader can answer with it. */
        boolean fail(int kind, int where) {
            faultKind = kind;
            faultPlace = where;
            return false;
        }

        int faultAnswer() {
            return faultKind - 10;
        }

        boolean ended() {
            return at >= length;
        }

        private boolean sees(char sign) {
            return at < length && bytes[at] == sign;
        }

        boolean seesDigit() {
            return at < length && bytes[at] >= '0' && bytes[at] <= '9';
        }

        boolean take(char sign) {
            if (!sees(sign)) {
                return false;
            }
            start = at;
            goOn(at + 1);
            return true;
        }

        boolean must(char sign) {
            if (!sees(sign)) {
                return fail(CANT_STAND, at);
            }
            goOn(at + 1);
            return true;
        }

        /** A number of these bounds (none is below 0), or NONE and a FAULT. */
        int number(int least, int most) {
            if (!seesDigit()) {
                fail(CANT_STAND, at);
                return NONE;
            }
            start = at;
            int value = 0;
            int end = at;
            while (end < length && bytes[end] >= '0' && bytes[end] <= '9') {
                // No bound goes beyond 999, and a number may have hundreds of digits.
                value = Math.min(value * 10 + bytes[end] - '0', 10000);
                end++;
            }
            goOn(end);
            if (value < least || value > most) {
                fail(NONE_SUCH, start);
                return NONE;
            }
            return value;
        }

        boolean numberInto(int[] row, int index, int least, int most) {
            int value = number(least, most);
            if (value == NONE || index < 0 || index >= row.length) {
                return false;
            }
            row[index] = value;
            return true;
        }

        /** Which word of a list with blanks between stands here, or NONE and a FAULT. */
        int word(String list) {
            start = at;
            int end = at;
            while (end < length && bytes[end] >= 'a' && bytes[end] <= 'z') {
                end++;
            }
            int which = 0;
            int first = 0;
            for (int i = 0; i <= list.length(); i++) {
                if (i == list.length() || list.charAt(i) == ' ') {
                    if (isWord(end, list, first, i)) {
                        goOn(end);
                        return which;
                    }
                    which++;
                    first = i + 1;
                }
            }
            fail(CANT_STAND, start);
            return NONE;
        }

        private boolean isWord(int end, String list, int first, int behind) {
            if (behind - first != end - start) {
                return false;
            }
            for (int i = 0; i < behind - first; i++) {
                if (list.charAt(first + i) != bytes[start + i]) {
                    return false;
                }
            }
            return true;
        }

        /** What was read last opens: a FAULT at it, if that is one too many. */
        boolean opens() {
            if (open >= MOST_OPEN) {
                return fail(TOO_MANY, start);
            }
            open++;
            return true;
        }

        boolean closes() {
            open--;
            return true;
        }
    }

    /** What a DISTRICT's text tells; no WORK changes it. */
    private static final class District {
        private int bells;
        private final int[] mood = new int[MOST_BELLS];
        private final int[] loud = new int[MOST_BELLS];
        private int houses;
        private final int[] far = new int[MOST_HOUSES];
        private final int[] ear = new int[MOST_HOUSES];
        private int deeds;
        private final int[] deedHouse = new int[MOST_DEEDS];
        private final int[] deedMood = new int[MOST_DEEDS];
        private final int[] deedNeed = new int[MOST_DEEDS];
        private int damp;

        boolean read(Tape tape) {
            bells = 0;
            houses = 0;
            deeds = 0;
            damp = 0;
            for (int clauses = 0; clauses <= MOST_CLAUSES && !tape.ended(); clauses++) {
                int word = tape.word(CLAUSE_WORDS);
                if (word == NONE) {
                    return false;
                }
                if (clauses == MOST_CLAUSES) {
                    return tape.fail(TOO_MANY, tape.start);
                }
                if (!readClause(tape, word) || !tape.must(';')) {
                    return false;
                }
            }
            return true;
        }

        private boolean readClause(Tape tape, int word) {
            switch (word) {
                case BELL_CLAUSE: return readBell(tape);
                case HOUSE_CLAUSE: return readHouse(tape);
                case DEED_CLAUSE: return readDeed(tape);
                default:
                    damp = tape.number(0, MOST_DAMP);
                    return damp != NONE;
            }
        }

        private boolean readBell(Tape tape) {
            if (bells >= MOST_BELLS) {
                return tape.fail(TOO_MANY, tape.start);
            }
            if (!tape.numberInto(mood, bells, 0, MOODS - 1)
                    || !tape.numberInto(loud, bells, 1, MOST_LOUD)) {
                return false;
            }
            bells++;
            return true;
        }

        private boolean readHouse(Tape tape) {
            if (houses >= MOST_HOUSES) {
                return tape.fail(TOO_MANY, tape.start);
            }
            if (!tape.numberInto(far, houses, 0, MOST_FAR)
                    || !tape.numberInto(ear, houses, 0, MOODS - 1)) {
                return false;
            }
            houses++;
            return true;
        }

        private boolean readDeed(Tape tape) {
            if (deeds >= MOST_DEEDS) {
                return tape.fail(TOO_MANY, tape.start);
            }
            if (!tape.numberInto(deedHouse, deeds, 0, houses - 1)
                    || !tape.numberInto(deedMood, deeds, 0, MOODS - 1)
                    || !tape.numberInto(deedNeed, deeds, 1, 200)) {
                return false;
            }
            deeds++;
            return true;
        }
    }

    /** A LAW, kept with each sign behind its two parts, so that HEARD is found without reading. */
    private static final class Law {
        private static final int FIRST_KNOWN = 1000;
        private static final int FIRST_SIGN = 2000;
        private static final int PLUS = FIRST_SIGN;
        private static final int MINUS = FIRST_SIGN + 1;
        private static final int TIMES = FIRST_SIGN + 2;
        private static final int BY = FIRST_SIGN + 3;
        private static final int LEFT = FIRST_SIGN + 4;
        private static final int LEAST = FIRST_SIGN + 5;
        private static final int MOST = FIRST_SIGN + 6;

        private final int[] code = new int[MOST_TEXT];
        private final int[] stack = new int[MOST_TEXT];
        private int size;

        /** loud - far - apart * 3 - damp, as it holds without a LAW. */
        void beCommon() {
            size = 0;
            add(FIRST_KNOWN + LOUD);
            add(FIRST_KNOWN + FAR);
            add(MINUS);
            add(FIRST_KNOWN + APART);
            add(3);
            add(TIMES);
            add(MINUS);
            add(FIRST_KNOWN + DAMP);
            add(MINUS);
        }

        /** Each byte of a text adds one at most. */
        private void add(int what) {
            if (size < MOST_TEXT) {
                code[size] = what;
                size++;
            }
        }

        boolean read(Tape tape) {
            size = 0;
            return readSum(tape) && (tape.ended() || tape.fail(CANT_STAND, tape.at));
        }

        private boolean readSum(Tape tape) {
            if (!readProduct(tape)) {
                return false;
            }
            for (int i = 0; i < MOST_TEXT; i++) {
                int sign = tape.take('+') ? PLUS : tape.take('-') ? MINUS : NONE;
                if (sign == NONE) {
                    return true;
                }
                if (!readProduct(tape)) {
                    return false;
                }
                add(sign);
            }
            return true;
        }

        private boolean readProduct(Tape tape) {
            if (!readUnit(tape)) {
                return false;
            }
            for (int i = 0; i < MOST_TEXT; i++) {
                int sign = tape.take('*') ? TIMES : tape.take('/') ? BY : tape.take('%') ? LEFT : NONE;
                if (sign == NONE) {
                    return true;
                }
                if (!readUnit(tape)) {
                    return false;
                }
                add(sign);
            }
            return true;
        }

        /** Comes back to readSum only behind opens(), which keeps that to six at one time. */
        private boolean readUnit(Tape tape) {
            if (tape.seesDigit()) {
                int value = tape.number(0, 999);
                add(value);
                return value != NONE;
            }
            if (tape.take('(')) {
                return tape.opens() && readSum(tape) && tape.must(')') && tape.closes();
            }
            int word = tape.word(LAW_WORDS);
            if (word == NONE) {
                return false;
            }
            if (word < LEAST_WORD) {
                add(FIRST_KNOWN + word);
                return true;
            }
            boolean whole = tape.opens() && tape.must('[') && readSum(tape)
                    && tape.must(',') && readSum(tape) && tape.must(']') && tape.closes();
            add(word == LEAST_WORD ? LEAST : MOST);
            return whole;
        }

        int heardBy(int[] known) {
            int top = 0;
            for (int i = 0; i < size; i++) {
                int what = code[i];
                if (what >= FIRST_SIGN) {
                    if (top >= 2) {
                        top--;
                        stack[top - 1] = join(what, stack[top - 1], stack[top]);
                    }
                } else if (top < MOST_TEXT) {
                    boolean isKnown = what >= FIRST_KNOWN && what < FIRST_KNOWN + KNOWN;
                    stack[top] = isKnown ? known[what - FIRST_KNOWN] : what;
                    top++;
                }
            }
            return Math.max(0, Math.min(stack[0], MOST_HEARD));
        }

        private static int join(int sign, int a, int b) {
            switch (sign) {
                case PLUS: return a + b;
                case MINUS: return a - b;
                case TIMES: return a * b;
                case BY: return b == 0 ? 0 : a / b;
                case LEFT: return b == 0 ? 0 : a % b;
                case LEAST: return Math.min(a, b);
                default: return Math.max(a, b);
            }
        }
    }

    /** All that WORK changes. */
    private static final class State {
        private int hour;
        private int damp;
        private int gagged;
        private int stolen;
        private final int[] cracks = new int[MOST_BELLS];
        private final int[] pulled = new int[MOST_BELLS];
        private final int[] temper = new int[MOST_HOUSES * MOODS];

        void clear(int dampAtFirst) {
            hour = 0;
            damp = dampAtFirst;
            gagged = 0;
            stolen = 0;
            Arrays.fill(cracks, 0);
            Arrays.fill(pulled, 0);
            Arrays.fill(temper, 0);
        }

        void copyFrom(State other) {
            hour = other.hour;
            damp = other.damp;
            gagged = other.gagged;
            stolen = other.stolen;
            System.arraycopy(other.cracks, 0, cracks, 0, MOST_BELLS);
            System.arraycopy(other.pulled, 0, pulled, 0, MOST_BELLS);
            System.arraycopy(other.temper, 0, temper, 0, MOST_HOUSES * MOODS);
        }

        boolean canSpeak(int bell) {
            return ((gagged | stolen) >> bell & 1) == 0;
        }

        boolean isStolen(int bell) {
            return (stolen >> bell & 1) == 1;
        }

        boolean crackBell(int bell) {
            if (isStolen(bell) || cracks[bell] >= MOST_CRACKS) {
                return false;
            }
            cracks[bell]++;
            return true;
        }

        boolean turnGag(int bell) {
            if (isStolen(bell)) {
                return false;
            }
            gagged ^= 1 << bell;
            return true;
        }

        boolean takeAway(int bell) {
            if (isStolen(bell)) {
                return false;
            }
            stolen |= 1 << bell;
            return true;
        }

        boolean bringBack(int bell) {
            if (!isStolen(bell)) {
                return false;
            }
            stolen &= ~(1 << bell);
            return true;
        }

        boolean setDamp(int n) {
            if (damp == n) {
                return false;
            }
            damp = n;
            return true;
        }

        /** Without the bound of hours: that is for WORK alone. */
        void passHour() {
            for (int i = 0; i < MOST_HOUSES * MOODS; i++) {
                temper[i] = Math.max(0, temper[i] - temper[i] / 4 - 1);
            }
            hour++;
        }

        boolean passHourInWork() {
            if (hour >= LAST_HOUR) {
                return false;
            }
            passHour();
            return true;
        }

        int temperIn(int house) {
            int sum = 0;
            for (int mood = 0; mood < MOODS; mood++) {
                sum += temper[house * MOODS + mood];
            }
            return sum;
        }

        /** A HOUSE that is not there has none, so that all rows can be added. */
        int temperOfAll() {
            int sum = 0;
            for (int house = 0; house < MOST_HOUSES; house++) {
                sum += temperIn(house);
            }
            return sum;
        }

        int pullsOfAll() {
            int sum = 0;
            for (int bell = 0; bell < MOST_BELLS; bell++) {
                sum += pulled[bell];
            }
            return sum;
        }

        int moodIn(int house) {
            int found = NONE;
            int most = 0;
            for (int mood = 0; mood < MOODS; mood++) {
                if (temper[house * MOODS + mood] > most) {
                    most = temper[house * MOODS + mood];
                    found = mood;
                }
            }
            return found;
        }

        int housesWithMood() {
            int bits = 0;
            for (int house = 0; house < MOST_HOUSES; house++) {
                if (moodIn(house) != NONE) {
                    bits |= 1 << house;
                }
            }
            return bits;
        }
    }

    /** The state now and ahead of each WORK that can be undone: what an IMAGE keeps. */
    private static final class Diary {
        private final State now = new State();
        private final State[] before = new State[MOST_WORKS];
        private int works;

        Diary() {
            for (int i = 0; i < MOST_WORKS; i++) {
                before[i] = new State();
            }
        }

        void clear(int dampAtFirst) {
            now.clear(dampAtFirst);
            works = 0;
        }

        void keep() {
            if (works < MOST_WORKS) {
                before[works].copyFrom(now);
                works++;
            }
        }

        boolean takeBack() {
            if (works <= 0) {
                return false;
            }
            works--;
            now.copyFrom(before[works]);
            return true;
        }

        void copyFrom(Diary other) {
            now.copyFrom(other.now);
            works = other.works;
            for (int i = 0; i < works && i < MOST_WORKS; i++) {
                before[i].copyFrom(other.before[i]);
            }
        }
    }

    /** The DISTRICT as told, its LAW, and what follows from both in a state. */
    private static final class Town {
        private District told = new District();
        private District toldDraft = new District();
        private Law law = new Law();
        private Law lawDraft = new Law();
        private final int[] known = new int[KNOWN];

        Town() {
            law.beCommon();
        }

        void takeDistrict() {
            District old = told;
            told = toldDraft;
            toldDraft = old;
            law.beCommon();
        }

        void takeLaw() {
            Law old = law;
            law = lawDraft;
            lawDraft = old;
        }

        /** HEARD in a HOUSE of a BELL, were it pulled now. */
        int reach(State state, int bell, int house) {
            known[LOUD] = told.loud[bell];
            known[CRACKS] = state.cracks[bell];
            known[PULLED] = state.pulled[bell];
            known[BELL] = bell;
            knowHouse(state, told.mood[bell], house);
            return law.heardBy(known);
        }

        /** An unknown bell has the number behind the last that a DISTRICT can have. */
        int reachOfUnknown(State state, int mood, int loud, int house) {
            known[LOUD] = loud;
            known[CRACKS] = 0;
            known[PULLED] = 0;
            known[BELL] = MOST_BELLS;
            knowHouse(state, mood, house);
            return law.heardBy(known);
        }

        private void knowHouse(State state, int mood, int house) {
            known[FAR] = told.far[house];
            known[APART] = Math.abs(mood - told.ear[house]);
            known[DAMP] = state.damp;
            known[HOUR] = state.hour % HOURS_A_DAY;
            known[HOUSE] = house;
        }

        boolean pullBell(State state, int bell) {
            if (!state.canSpeak(bell)) {
                return false;
            }
            for (int house = 0; house < told.houses; house++) {
                int where = house * MOODS + told.mood[bell];
                int more = state.temper[where] + reach(state, bell, house);
                state.temper[where] = Math.min(more, MOST_TEMPER);
            }
            state.pulled[bell]++;
            return true;
        }

        boolean doStep(State state, int step, int n) {
            switch (step) {
                case PULL: return pullBell(state, n);
                case CRACK: return state.crackBell(n);
                case GAG: return state.turnGag(n);
                case STEAL: return state.takeAway(n);
                case BRING: return state.bringBack(n);
                case DAMPEN: return state.setDamp(n);
                default: return state.passHourInWork();
            }
        }

        int speaking(State state) {
            return (1 << told.bells) - 1 & ~(state.gagged | state.stolen);
        }

        int deedsDone(State state) {
            int bits = 0;
            for (int deed = 0; deed < told.deeds; deed++) {
                int where = told.deedHouse[deed] * MOODS + told.deedMood[deed];
                if (state.temper[where] >= told.deedNeed[deed]) {
                    bits |= 1 << deed;
                }
            }
            return bits;
        }

        int fewestHeard(State state, int house, int n) {
            int speak = speaking(state);
            int found = NONE;
            for (int bits = 0; bits < 1 << told.bells; bits++) {
                boolean fewer = found == NONE || Integer.bitCount(bits) < Integer.bitCount(found);
                if ((bits & ~speak) == 0 && fewer && heardTogether(state, bits, house) >= n) {
                    found = bits;
                }
            }
            return found;
        }

        private int heardTogether(State state, int bits, int house) {
            int sum = 0;
            for (int bell = 0; bell < told.bells; bell++) {
                if ((bits >> bell & 1) == 1) {
                    sum += reach(state, bell, house);
                }
            }
            return sum;
        }

        /** How often a BELL must be pulled for a DEED that is not DONE, tried on another state. */
        int pullsFor(State state, State trial, int deed, int bell) {
            if (told.mood[bell] != told.deedMood[deed] || !state.canSpeak(bell)) {
                return NONE;
            }
            trial.copyFrom(state);
            for (int often = 1; often <= MOST_PULLS; often++) {
                pullBell(trial, bell);
                if ((deedsDone(trial) >> deed & 1) == 1) {
                    return often;
                }
            }
            return NONE;
        }

        /** The bound of METAL; nobody gets more than LOUD, so the highest LOUD gives all. */
        int level(int bits, int n) {
            for (int bound = MOST_LOUD; bound > 0; bound--) {
                int given = 0;
                for (int bell = 0; bell < told.bells; bell++) {
                    if ((bits >> bell & 1) == 1) {
                        given += Math.min(told.loud[bell], bound);
                    }
                }
                if (given <= n) {
                    return bound;
                }
            }
            return 0;
        }
    }

    /** WORK: its STEPS in a row, an again with the place behind its last STEP. */
    private static final class Work {
        private final int[] step = new int[MOST_TEXT];
        private final int[] number = new int[MOST_TEXT];
        private final int[] behind = new int[MOST_TEXT];
        private int size;
        private int begun;
        private int done;
        private int refused;

        boolean read(Tape tape, int bells) {
            size = 0;
            return readSteps(tape, bells, false);
        }

        /** Comes back to itself only behind opens(), which keeps that to six at one time. */
        private boolean readSteps(Tape tape, int bells, boolean inAgain) {
            for (int i = 0; i < MOST_TEXT; i++) {
                if (inAgain ? tape.take(']') : tape.ended()) {
                    return true;
                }
                if (!readStep(tape, bells) || !tape.must(';')) {
                    return false;
                }
            }
            return true;
        }

        private boolean readStep(Tape tape, int bells) {
            int word = tape.word(STEP_WORDS);
            if (word == NONE || size >= MOST_TEXT) {
                return false;
            }
            int mine = size;
            size++;
            step[mine] = word;
            number[mine] = 0;
            if (word == AGAIN) {
                return readAgain(tape, bells, mine);
            }
            if (word != PASS_HOUR) {
                number[mine] = tape.number(0, word == DAMPEN ? MOST_DAMP : bells - 1);
            }
            return number[mine] != NONE;
        }

        private boolean readAgain(Tape tape, int bells, int mine) {
            if (!tape.opens()) {
                return false;
            }
            number[mine] = tape.number(0, 60);
            if (number[mine] == NONE || !tape.must('[') || !readSteps(tape, bells, true)) {
                return false;
            }
            behind[mine] = size;
            return tape.closes();
        }

        void start() {
            begun = 0;
            done = 0;
            refused = 0;
        }

        /** As deep as agains stand in one another, which reading keeps to six. */
        void run(Town town, State state, int from, int to) {
            int at = from;
            while (at < to && begun < MOST_BEGUN) {
                begun++;
                if (step[at] == AGAIN) {
                    for (int i = 0; i < number[at] && begun < MOST_BEGUN; i++) {
                        run(town, state, at + 1, behind[at]);
                    }
                    at = behind[at];
                } else {
                    if (town.doStep(state, step[at], number[at])) {
                        done++;
                    } else {
                        refused++;
                    }
                    at++;
                }
            }
        }
    }

    /** The BOOK, with CAST and ASK: of what an unknown bell may be. */
    private static final class Foundry {
        private static final int VALUES = MOST_HEARD + 1;

        private int lines;
        private final int[] heardIn = new int[MOST_HOUSES];
        private final int[] draft = new int[MOST_HOUSES];
        private int pairs;
        private int first;
        private int askHouse;
        private int askLeft;
        private final int[] left = new int[MOST_HOUSES * VALUES];

        Foundry() {
            Arrays.fill(heardIn, NONE);
        }

        void clear() {
            Arrays.fill(heardIn, NONE);
            lines = 0;
        }

        boolean read(Tape tape, int houses) {
            Arrays.fill(draft, NONE);
            int read = 0;
            while (read <= MOST_HOUSES && !tape.ended()) {
                int house = tape.number(0, houses - 1);
                if (house == NONE) {
                    return false;
                }
                if (draft[house] != NONE) {
                    return tape.fail(NONE_SUCH, tape.start);
                }
                if (!tape.numberInto(draft, house, 0, MOST_HEARD) || !tape.must(';')) {
                    return false;
                }
                read++;
            }
            System.arraycopy(draft, 0, heardIn, 0, MOST_HOUSES);
            lines = read;
            return true;
        }

        /** Counts the pairs, and for each HOUSE without a line those by what would be HEARD. */
        void guess(Town town, State state) {
            pairs = 0;
            first = NONE;
            Arrays.fill(left, 0);
            for (int mood = 0; mood < MOODS; mood++) {
                for (int loud = 1; loud <= MOST_LOUD; loud++) {
                    if (fits(town, state, mood, loud)) {
                        if (pairs == 0) {
                            first = 100 * mood + loud;
                        }
                        pairs++;
                        sort(town, state, mood, loud);
                    }
                }
            }
        }

        private boolean fits(Town town, State state, int mood, int loud) {
            for (int house = 0; house < town.told.houses; house++) {
                if (heardIn[house] != NONE
                        && town.reachOfUnknown(state, mood, loud, house) != heardIn[house]) {
                    return false;
                }
            }
            return true;
        }

        private void sort(Town town, State state, int mood, int loud) {
            for (int house = 0; house < town.told.houses; house++) {
                if (heardIn[house] == NONE) {
                    left[house * VALUES + town.reachOfUnknown(state, mood, loud, house)]++;
                }
            }
        }

        /** Goes by what guess() has counted. */
        void choose(int houses) {
            askHouse = NONE;
            askLeft = NONE;
            for (int house = 0; house < houses; house++) {
                int worst = 0;
                for (int value = 0; value < VALUES; value++) {
                    worst = Math.max(worst, left[house * VALUES + value]);
                }
                if (heardIn[house] == NONE && (askHouse == NONE || worst < askLeft)) {
                    askHouse = house;
                    askLeft = worst;
                }
            }
        }
    }

    /** ROWS and CHANGES. LONG is found for all ROWS of n when first asked, and kept. */
    private static final class Rows {
        private static final int[] MANY = {1, 1, 2, 6, 24, 120, 720};
        private static final int[] FIRST = {0, 0, 1, 3, 9, 33, 153};
        private static final int ALL = 873;

        private final int[] longs = new int[ALL];
        private final int[] queue = new int[720];
        private final int[] order = new int[MOST_BELLS];
        private final int[] changed = new int[MOST_BELLS];

        Rows() {
            Arrays.fill(longs, NONE);
        }

        int longOf(int n, int row) {
            if (longs[FIRST[n]] == NONE) {
                findLongs(n);
            }
            return longs[FIRST[n] + row];
        }

        /** By nearest first: a CHANGE done twice is none, so from ROUNDS is as far as to it. */
        private void findLongs(int n) {
            longs[FIRST[n]] = 0;
            queue[0] = 0;
            int queued = 1;
            for (int i = 0; i < queued && i < MANY[n]; i++) {
                int row = queue[i];
                lay(n, row);
                for (int twos = 1; twos < 1 << n - 1; twos++) {
                    if (!isChange(twos)) {
                        continue;
                    }
                    int found = rowBy(n, twos);
                    if (longs[FIRST[n] + found] == NONE && queued < MANY[n]) {
                        longs[FIRST[n] + found] = longs[FIRST[n] + row] + 1;
                        queue[queued] = found;
                        queued++;
                    }
                }
            }
        }

        int nearer(int n, int row) {
            int goal = longOf(n, row) - 1;
            int least = row;
            boolean found = false;
            lay(n, row);
            for (int twos = 1; twos < 1 << n - 1; twos++) {
                if (!isChange(twos)) {
                    continue;
                }
                int other = rowBy(n, twos);
                if (longOf(n, other) == goal && (!found || other < least)) {
                    least = other;
                    found = true;
                }
            }
            return least;
        }

        int bellAt(int n, int row, int place) {
            lay(n, row);
            return order[place];
        }

        /** Bits tell the left places of twos; two bits side by side would share a place. */
        private static boolean isChange(int twos) {
            return (twos & twos << 1) == 0;
        }

        private void lay(int n, int row) {
            int used = 0;
            int rest = row;
            for (int place = 0; place < n; place++) {
                int each = MANY[n - 1 - place];
                order[place] = unusedAt(used, rest / each);
                used |= 1 << order[place];
                rest %= each;
            }
        }

        private static int unusedAt(int used, int skip) {
            int skipped = 0;
            for (int bell = 0; bell < MOST_BELLS; bell++) {
                if ((used >> bell & 1) == 0) {
                    if (skipped == skip) {
                        return bell;
                    }
                    skipped++;
                }
            }
            return 0;
        }

        /** The number of the ROW that a CHANGE makes of the one that is laid. */
        private int rowBy(int n, int twos) {
            System.arraycopy(order, 0, changed, 0, MOST_BELLS);
            for (int place = 0; place + 1 < n; place++) {
                if ((twos >> place & 1) == 1) {
                    changed[place] = order[place + 1];
                    changed[place + 1] = order[place];
                }
            }
            int row = 0;
            int used = 0;
            for (int place = 0; place < n; place++) {
                int usedBelow = Integer.bitCount(used & (1 << changed[place]) - 1);
                row += (changed[place] - usedBelow) * MANY[n - 1 - place];
                used |= 1 << changed[place];
            }
            return row;
        }
    }

    /** SUIT: for each BELL and each set of HOUSES given ahead, the most that is to be had. */
    private static final class Match {
        private static final int SETS = 1 << MOST_HOUSES;

        private final int[] most = new int[(MOST_BELLS + 1) * SETS];
        private final int[] reaches = new int[MOST_BELLS * MOST_HOUSES];
        private final int[] given = new int[MOST_BELLS];

        int best(Town town, State state) {
            int bells = town.told.bells;
            int houses = town.told.houses;
            for (int used = 0; used < 1 << houses; used++) {
                most[bells * SETS + used] = 0;
            }
            for (int bell = bells - 1; bell >= 0; bell--) {
                for (int house = 0; house < houses; house++) {
                    // What can't be given is worse than none.
                    reaches[bell * MOST_HOUSES + house] =
                            state.canSpeak(bell) ? town.reach(state, bell, house) : NONE;
                }
                for (int used = 0; used < 1 << houses; used++) {
                    most[bell * SETS + used] = mostBy(bell, houses, used);
                }
            }
            give(bells, houses);
            return most[0];
        }

        private int mostBy(int bell, int houses, int used) {
            int found = most[(bell + 1) * SETS + used];
            for (int house = 0; house < houses; house++) {
                found = Math.max(found, mostWith(bell, house, used));
            }
            return found;
        }

        /** NONE, if the BELL can't be given to that HOUSE. */
        private int mostWith(int bell, int house, int used) {
            int reach = reaches[bell * MOST_HOUSES + house];
            if (reach == NONE || (used >> house & 1) == 1) {
                return NONE;
            }
            return reach + most[(bell + 1) * SETS + (used | 1 << house)];
        }

        private void give(int bells, int houses) {
            int used = 0;
            for (int bell = 0; bell < bells; bell++) {
                given[bell] = NONE;
                for (int house = houses - 1; house >= 0; house--) {
                    if (mostWith(bell, house, used) == most[bell * SETS + used]) {
                        given[bell] = house;
                    }
                }
                if (given[bell] != NONE) {
                    used |= 1 << given[bell];
                }
            }
        }
    }

    /** A CENTURY, lived on a state of its own. */
    private static final class Century {
        private final State then = new State();
        private int seed;
        private int pullsMade;

        void live(Town town, State from, int firstSeed, int hours, int q) {
            then.copyFrom(from);
            seed = firstSeed;
            pullsMade = 0;
            for (int i = 0; i < hours; i++) {
                if (town.told.bells > 0) {
                    draw(town, q);
                }
                then.passHour();
            }
        }

        private void draw(Town town, int q) {
            int bell = drawBelow(town.told.bells);
            if (town.pullBell(then, bell)) {
                pullsMade++;
            }
            if (drawBelow(16) < q && !then.takeAway(bell)) {
                then.bringBack(bell);
            }
            if (drawBelow(16) < q) {
                then.setDamp(drawBelow(10));
            }
        }

        private int drawBelow(int n) {
            seed = seed * 1103515245 + 12345;
            return n < 1 ? 0 : (seed >>> 16 & 0x7fff) % n;
        }
    }
}
