import java.util.ArrayList;
import java.util.List;

/**
 * All that can be asked of an object, as lines of call and answer. fault() and status() are left out:
 * a text with a FAULT and a refused call change them by right, so tests ask them by themselves.
 */
final class Picture {
    private final MoodBelfries x;
    private final List<String> lines = new ArrayList<>();

    private Picture(MoodBelfries x) {
        this.x = x;
    }

    /** Some 90 calls for two bells, two houses and two deeds. */
    static List<String> of(MoodBelfries x) {
        Picture picture = new Picture(x);
        picture.told();
        picture.bells();
        picture.houses();
        picture.deeds();
        picture.law();
        return picture.lines;
    }

    /** Now, behind undo() and behind restore(), so that what is kept for both is seen, too. */
    static List<String> allOf(MoodBelfries x) {
        List<String> all = new ArrayList<>(of(x));
        all.add("undo() " + x.undo());
        all.addAll(of(x));
        all.add("restore() " + x.restore());
        all.addAll(of(x));
        return all;
    }

    private void add(String call, long answer) {
        lines.add(call + " " + answer);
    }

    private void told() {
        for (int what = 0; what <= 11; what++) {
            add("told(" + what + ")", x.told(what));
        }
        for (int what = 0; what <= 2; what++) {
            add("count(" + what + ")", x.count(what));
        }
    }

    private void bells() {
        for (int bell = 0; bell < x.told(0); bell++) {
            for (int what = 0; what <= 5; what++) {
                add("bell(" + bell + ", " + what + ")", x.bell(bell, what));
            }
        }
    }

    private void houses() {
        for (int house = 0; house < x.told(1); house++) {
            for (int what = 0; what <= 3; what++) {
                add("house(" + house + ", " + what + ")", x.house(house, what));
            }
            for (int mood = 0; mood <= 9; mood++) {
                add("temper(" + house + ", " + mood + ")", x.temper(house, mood));
            }
            for (int bell = 0; bell < x.told(0); bell++) {
                add("heard(" + bell + ", " + house + ")", x.heard(bell, house));
            }
        }
    }

    private void deeds() {
        for (int deed = 0; deed < x.told(2); deed++) {
            for (int what = 0; what <= 3; what++) {
                add("deed(" + deed + ", " + what + ")", x.deed(deed, what));
            }
        }
    }

    /** The LAW shows by what would be HEARD, the BOOK by the pairs that it leaves. */
    private void law() {
        add("would(60, 2, 3, 1, 4, 5, 6, 0, 1)", x.would(60, 2, 3, 1, 4, 5, 6, 0, 1));
        add("cast(0)", x.cast(0));
        add("cast(1)", x.cast(1));
        add("ask(0)", x.ask(0));
        add("ask(1)", x.ask(1));
    }
}
