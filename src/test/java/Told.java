import java.util.ArrayList;
import java.util.List;

/** All that an attic tells of itself, in a row: two rows are the same if nothing that can be seen differs. */
final class Told {
    /** So many things are asked for one by one, so that an object stays under its 512 calls. */
    private static final int THINGS = 16;

    private Told() {
    }

    /** What the questions answer; they change nothing. */
    static List<Long> by(AtticSweep x) {
        List<Long> row = new ArrayList<>();
        row.add(x.digest());
        for (int what = 0; what < 13; what++) {
            row.add((long) x.count(what));
        }
        row.add((long) x.lost());
        row.add((long) x.under());
        for (int k = 0; k < 34; k++) {
            row.add((long) x.holder(k));
        }
        for (int thing = 0; thing < Math.min(THINGS, x.count(0)); thing++) {
            for (int what = 0; what < 7; what++) {
                row.add((long) x.about(thing, what));
            }
        }
        for (int k = 0; k < 200; k += 3) {
            row.add((long) x.cell(k));
        }
        return row;
    }

    /** What comes to light by acts alone: the values of pairs, and how the round goes on. */
    static List<Long> goingOn(AtticSweep x) {
        List<Long> row = new ArrayList<>();
        for (int pair = 0; pair < 9; pair++) {
            row.add((long) x.value(2, 3, pair));
        }
        row.add((long) x.sweep(1));
        row.add(x.digest());
        row.add((long) x.sweep(400));
        row.add(x.digest());
        row.add((long) x.make(2, 3, 2, false));
        row.add((long) x.begin());
        row.add((long) x.sweep(400));
        row.add(x.digest());
        row.add((long) x.wish(2, 2));
        row.add((long) x.attic(0, 0));
        return row;
    }
}
