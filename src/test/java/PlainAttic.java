import java.util.ArrayList;
import java.util.HashSet;
import java.util.List;
import java.util.Set;

/** The document's words as plainly as they can be run: things are objects, all else is looked up anew. */
final class PlainAttic {
    static final int NONE = -1, BAD = -2, NO = -3, FULL = -4, LOST = -5;
    static final int WHITE = 0, GRAY = 1, BLACK = 2;

    static final class Thing {
        int number;
        int place;
        int colour;
        int moved;
        boolean freed;
        boolean wish;
        Thing[] fields;

        int cells() {
            return fields.length + 1;
        }

        boolean white() {
            return colour == WHITE;
        }
    }

    static final class Pair {
        Thing key;
        Thing value;
        boolean dropped;
    }

    int manner;
    int fault;
    int under;
    int sweptTo;
    int half;
    int came;
    int rounds;
    int steps;
    int shaded;
    int moved;
    List<Thing> things = new ArrayList<>();
    Thing[][] registers = new Thing[3][4];
    Thing[] slots = new Thing[4];
    List<Thing> wishes = new ArrayList<>();
    Thing[] weak = new Thing[6];
    List<Pair> pairs = new ArrayList<>();

    int attic(int newManner, int newFault) {
        if (out(newManner, 4) || out(newFault, 3)) {
            return BAD;
        }
        int there = things.size();
        manner = newManner;
        fault = newFault;
        under = 0;
        half = 0;
        came = 0;
        rounds = 0;
        steps = 0;
        shaded = 0;
        moved = 0;
        things = new ArrayList<>();
        registers = new Thing[3][4];
        slots = new Thing[4];
        wishes = new ArrayList<>();
        weak = new Thing[6];
        pairs = new ArrayList<>();
        return there;
    }

    int make(int owner, int register, int n, boolean wish) {
        if (out(owner, 3) || out(register, 4) || out(n, 7)) {
            return BAD;
        }
        Thing made = new Thing();
        made.number = things.size();
        made.fields = new Thing[n];
        made.wish = wish;
        made.colour = under != 0 && fault != 2 ? BLACK : WHITE;
        made.place = things.size() == 120 ? NONE : placeFor(n + 1);
        if (made.place == NONE) {
            return FULL;
        }
        if (manner == 3 && under == 1) {
            int left = 100 - came - (n + 1);
            int white = made.white() ? n + 1 : 0;
            for (Thing thing : things) {
                white += thing.white() && !thing.freed ? thing.cells() : 0;
            }
            if (left < white) {
                return FULL;
            }
        }
        came += manner == 3 ? n + 1 : 0;
        things.add(made);
        registers[owner][register] = made;
        return made.number;
    }

    int placeFor(int size) {
        if (manner == 3) {
            return came + size > 100 ? NONE : half * 100 + came;
        }
        for (int place = 0; place + size <= 200; place++) {
            boolean free = true;
            for (int k = place; k < place + size; k++) {
                free &= cell(k) == NONE;
            }
            if (free) {
                return place;
            }
        }
        return NONE;
    }

    int move(int owner, int r, int s) {
        if (out(owner, 3) || out(r, 4) || out(s, 4)) {
            return BAD;
        }
        registers[owner][r] = registers[owner][s];
        return number(registers[owner][r]);
    }

    int get(int owner, int r, int s, int i) {
        if (out(owner, 3) || out(r, 4) || out(s, 4)) {
            return BAD;
        }
        Thing from = registers[owner][s];
        if (from == null || out(i, from.fields.length)) {
            return NO;
        }
        if (from.freed) {
            return LOST;
        }
        Thing read = from.fields[i];
        if (manner == 3) {
            note(read);
        }
        registers[owner][r] = read;
        return number(read);
    }

    int put(int owner, int r, int i, int s) {
        if (out(owner, 3) || out(r, 4) || out(s, 4)) {
            return BAD;
        }
        Thing into = registers[owner][r];
        if (into == null || out(i, into.fields.length)) {
            return NO;
        }
        if (into.freed) {
            return LOST;
        }
        if (manner == 1) {
            note(into.fields[i]);
        } else if (manner == 2) {
            note(registers[owner][s]);
        }
        into.fields[i] = registers[owner][s];
        return 1;
    }

    int drop(int owner, int r) {
        if (out(owner, 3) || out(r, 4)) {
            return BAD;
        }
        int held = number(registers[owner][r]);
        registers[owner][r] = null;
        return held;
    }

    int store(int k, int owner, int r) {
        if (out(k, 4) || out(owner, 3) || out(r, 4)) {
            return BAD;
        }
        int held = number(slots[k]);
        slots[k] = registers[owner][r];
        return held;
    }

    int load(int owner, int r, int k) {
        if (out(owner, 3) || out(r, 4) || out(k, 4)) {
            return BAD;
        }
        registers[owner][r] = slots[k];
        return number(slots[k]);
    }

    int same(int owner, int r, int other, int s) {
        if (out(owner, 3) || out(r, 4) || out(other, 3) || out(s, 4)) {
            return BAD;
        }
        return registers[owner][r] == registers[other][s] ? 1 : 0;
    }

    int weak(int k, int owner, int r) {
        if (out(k, 6) || out(owner, 3) || out(r, 4)) {
            return BAD;
        }
        if (registers[owner][r] == null) {
            return NO;
        }
        weak[k] = registers[owner][r];
        return 1;
    }

    int strong(int owner, int r, int k) {
        if (out(owner, 3) || out(r, 4) || out(k, 6)) {
            return BAD;
        }
        if (manner == 1 || manner == 3) {
            note(weak[k]);
        }
        registers[owner][r] = weak[k];
        return number(weak[k]);
    }

    int pair(int owner, int r, int s) {
        if (out(owner, 3) || out(r, 4) || out(s, 4)) {
            return BAD;
        }
        if (registers[owner][r] == null || registers[owner][s] == null) {
            return NO;
        }
        if (pairs.size() == 8) {
            return FULL;
        }
        Pair pair = new Pair();
        pair.key = registers[owner][r];
        pair.value = registers[owner][s];
        pairs.add(pair);
        return pairs.size() - 1;
    }

    int value(int owner, int r, int pair) {
        if (out(owner, 3) || out(r, 4) || out(pair, pairs.size())) {
            return BAD;
        }
        Thing read = pairs.get(pair).dropped ? null : pairs.get(pair).value;
        if (manner == 1 || manner == 3) {
            note(read);
        }
        registers[owner][r] = read;
        return number(read);
    }

    int wish(int owner, int r) {
        if (out(owner, 3) || out(r, 4)) {
            return BAD;
        }
        if (wishes.isEmpty()) {
            return NONE;
        }
        registers[owner][r] = wishes.remove(0);
        return number(registers[owner][r]);
    }

    int begin() {
        if (under != 0) {
            return NO;
        }
        int freedBefore = freed();
        under = 1;
        steps = 0;
        shaded = 0;
        for (Thing thing : things) {
            if (!thing.freed) {
                thing.colour = WHITE;
            }
        }
        if (manner == 3) {
            half = 1 - half;
            came = 0;
        }
        shadeHeld();
        if (manner == 0) {
            while (under != 0) {
                step();
            }
            return freed() - freedBefore;
        }
        int gray = 0;
        for (Thing thing : things) {
            gray += thing.colour == GRAY ? 1 : 0;
        }
        return gray;
    }

    int sweep(int n) {
        if (n < 1 || n > 400) {
            return BAD;
        }
        int done = 0;
        while (done < n && under != 0) {
            step();
            done++;
        }
        return done;
    }

    void step() {
        steps++;
        if (under == 2) {
            stepOfSweeping();
            return;
        }
        for (Thing thing : things) {
            if (thing.colour == GRAY) {
                for (Thing held : thing.fields) {
                    shade(held);
                }
                thing.colour = BLACK;
                return;
            }
        }
        if (manner == 2 && shadeHeld() || shadeValues() || shadeWishing()) {
            return;
        }
        for (int k = 0; k < 6; k++) {
            weak[k] = weak[k] != null && weak[k].white() ? null : weak[k];
        }
        for (Pair pair : pairs) {
            pair.dropped |= pair.key.white();
        }
        under = 2;
        sweptTo = 0;
        if (manner == 3) {
            for (Thing thing : things) {
                if (thing.white()) {
                    free(thing);
                }
            }
            under = 0;
            rounds++;
        }
    }

    void stepOfSweeping() {
        while (sweptTo < things.size() && things.get(sweptTo).freed) {
            sweptTo++;
        }
        if (sweptTo == things.size()) {
            under = 0;
            rounds++;
            return;
        }
        if (things.get(sweptTo).white()) {
            free(things.get(sweptTo));
        }
        sweptTo++;
    }

    void free(Thing thing) {
        thing.freed = true;
        thing.place = NONE;
    }

    List<Thing> held() {
        List<Thing> all = new ArrayList<>();
        for (Thing[] row : registers) {
            all.addAll(java.util.Arrays.asList(row));
        }
        all.addAll(java.util.Arrays.asList(slots));
        all.addAll(wishes);
        return all;
    }

    boolean shadeHeld() {
        boolean any = false;
        for (Thing thing : held()) {
            any |= shade(thing);
        }
        return any;
    }

    boolean shadeValues() {
        boolean any = false;
        for (Pair pair : pairs) {
            any |= !pair.dropped && !pair.key.white() && shade(pair.value);
        }
        return any;
    }

    boolean shadeWishing() {
        boolean any = false;
        for (Thing thing : things) {
            if (thing.wish && thing.white() && !thing.freed) {
                thing.wish = false;
                wishes.add(thing);
                any |= shade(thing);
            }
        }
        return any;
    }

    void note(Thing thing) {
        if (under == 1 && fault != 1) {
            shade(thing);
        }
    }

    boolean shade(Thing thing) {
        if (thing == null || thing.freed || !thing.white()) {
            return false;
        }
        thing.colour = GRAY;
        shaded++;
        if (manner == 3) {
            thing.place = half * 100 + came;
            came += thing.cells();
            thing.moved++;
            moved++;
        }
        return true;
    }

    int under() {
        return under;
    }

    int about(int thing, int what) {
        if (out(thing, things.size()) || out(what, 7)) {
            return BAD;
        }
        Thing it = things.get(thing);
        int[] all = {it.fields.length, it.place, it.colour, it.freed ? 1 : 0,
            reached().contains(it) ? 1 : 0, it.wish ? 1 : 0, it.moved};
        return all[what];
    }

    /** What is reached, by going round until nothing comes to it any more. */
    Set<Thing> reached() {
        Set<Thing> all = new HashSet<>(held());
        int before = 0;
        while (all.size() != before) {
            before = all.size();
            for (Thing thing : new ArrayList<>(all)) {
                if (thing != null && !thing.freed) {
                    all.addAll(java.util.Arrays.asList(thing.fields));
                }
            }
            for (Pair pair : pairs) {
                if (!pair.dropped && all.contains(pair.key)) {
                    all.add(pair.value);
                }
            }
        }
        all.remove(null);
        return all;
    }

    int field(int thing, int i) {
        if (out(thing, things.size())) {
            return BAD;
        }
        Thing it = things.get(thing);
        return out(i, it.fields.length) ? NONE : number(it.fields[i]);
    }

    int holder(int k) {
        if (k < 0) {
            return BAD;
        }
        if (k < 12) {
            return number(registers[k / 4][k % 4]);
        }
        if (k < 16) {
            return number(slots[k - 12]);
        }
        if (k < 22) {
            return number(weak[k - 16]);
        }
        if (k < 30) {
            return k - 22 >= pairs.size() || pairs.get(k - 22).dropped ? NONE : number(pairs.get(k - 22).key);
        }
        return k - 30 >= wishes.size() ? NONE : number(wishes.get(k - 30));
    }

    int cell(int k) {
        if (out(k, 200)) {
            return BAD;
        }
        for (Thing thing : things) {
            if (!thing.freed && thing.place <= k && k < thing.place + thing.cells()) {
                return thing.number;
            }
        }
        return NONE;
    }

    int count(int what) {
        if (out(what, 13)) {
            return BAD;
        }
        Set<Thing> reached = reached();
        int lost = 0;
        int waste = 0;
        for (Thing thing : things) {
            lost += thing.freed && reached.contains(thing) ? 1 : 0;
            waste += !thing.freed && !reached.contains(thing) ? 1 : 0;
        }
        int free = 0;
        int run = 0;
        int longest = 0;
        for (int k = 0; k < 200; k++) {
            run = cell(k) == NONE ? run + 1 : 0;
            free += cell(k) == NONE ? 1 : 0;
            longest = Math.max(longest, run);
        }
        int kept = 0;
        for (Pair pair : pairs) {
            kept += pair.dropped ? 0 : 1;
        }
        int[] all = {things.size(), things.size() - freed(), reached.size(), lost, waste,
            manner == 3 ? 100 - came : free, manner == 3 ? 100 - came : longest,
            rounds, steps, shaded, moved, wishes.size(), kept};
        return all[what];
    }

    int lost() {
        Set<Thing> reached = reached();
        for (Thing thing : things) {
            if (thing.freed && reached.contains(thing)) {
                return thing.number;
            }
        }
        return NONE;
    }

    long digest() {
        List<Integer> row = new ArrayList<>();
        for (Thing thing : things) {
            row.add(thing.place);
            row.add(thing.colour);
            row.add(thing.freed ? 1 : 0);
            for (Thing held : thing.fields) {
                row.add(number(held));
            }
        }
        for (int k = 0; k < 30; k++) {
            row.add(holder(k));
        }
        row.add(under);
        long h = 3;
        for (int v : row) {
            h = 31 * h + v;
        }
        return h;
    }

    private int freed() {
        int count = 0;
        for (Thing thing : things) {
            count += thing.freed ? 1 : 0;
        }
        return count;
    }

    private static int number(Thing thing) {
        return thing == null ? NONE : thing.number;
    }

    private static boolean out(int number, int end) {
        return number < 0 || number >= end;
    }
}
