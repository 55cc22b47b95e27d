/** Each promise of the document by itself: ordinary inputs, the edges that it names, wrong inputs. */
public final class PromisesTest extends Scene {
    /** Numbers that are no owner, no register, no slot, no weak holder. */
    private static final int[] WRONG = {-1, 6, 7, 100, MOST, LEAST};

    public static void main(String[] args) {
        newObject();
        attic();
        make();
        makeInHalves();
        move();
        get();
        put();
        drop();
        storeAndLoad();
        same();
        weakAndStrong();
        pairAndValue();
        wish();
        begin();
        sweep();
        under();
        about();
        field();
        holder();
        cell();
        count();
        lost();
        digest();
        refusalsChangeNothing();
        refusalsInTheirOrder();
        colours();
        marking();
        markingWithPairsAndWishes();
        noteOld();
        noteNew();
        noteRead();
        missingNotes();
        whiteNewOnes();
        finish();
    }

    private static long empty() {
        long h = 3;
        for (int k = 0; k < 30; k++) {
            h = 31 * h - 1;
        }
        return 31 * h;
    }

    // promise 1
    private static void newObject() {
        x = new AtticSweep();
        due("1: digest", x.digest(), empty());
        due("1: no thing", x.count(0), 0);
        due("1: free cells", x.count(5), 200);
        due("1: one behind the other", x.count(6), 200);
        due("1: nothing under way", x.under(), 0);
        for (int what : new int[] {1, 2, 3, 4, 7, 8, 9, 10, 11, 12}) {
            due("1: count " + what, x.count(what), 0);
        }
        things(0);
        x.drop(0, 0);
        due("1: manner 0 frees as it begins", x.begin(), 1);
        due("1: manner 0 is over at once", x.under(), 0);
    }

    // promise 2
    private static void attic() {
        fresh(3, 2);
        things(2, 3);
        x.weak(0, 0, 0);
        x.store(1, 0, 1);
        x.pair(0, 0, 1);
        x.begin();
        x.sweep(2);
        for (int wrong : new int[] {-1, 4, MOST, LEAST}) {
            due("2: manner " + wrong, x.attic(wrong, 0), BAD);
        }
        for (int wrong : new int[] {-1, 3, MOST, LEAST}) {
            due("2: fault " + wrong, x.attic(0, wrong), BAD);
        }
        due("2: still under way", x.under(), 1);
        due("2: how many there were", x.attic(1, 0), 2);
        due("2: digest", x.digest(), empty());
        for (int what : new int[] {0, 1, 2, 3, 4, 7, 8, 9, 10, 11, 12}) {
            due("2: count " + what, x.count(what), 0);
        }
        due("2: free cells", x.count(5), 200);
        due("2: how many there were, none", x.attic(3, 2), 0);
        due("2: the first half is at hand", x.make(0, 0, 1, false), 0);
        due("2: its place", x.about(0, 1), 0);
        due("2: it is white again", x.about(0, 2), 0);
        due("2: freed ones count, too", freedOneThenAttic(), 1);
        nothingIsLeftBehind();
    }

    /** What an attic had that was used much, the next one has not. */
    private static void nothingIsLeftBehind() {
        fresh(3, 0);
        x.make(0, 0, 1, true);
        x.make(0, 1, 1, true);
        x.make(0, 2, 1, false);
        x.drop(0, 1);
        x.drop(0, 2);
        x.weak(5, 0, 0);
        x.pair(0, 0, 0);
        x.begin();
        x.sweep(400);
        due("2: a wish", x.count(11), 1);
        due("2: a round", x.count(7), 1);
        due("2: three there were", x.attic(1, 0), 3);
        due("2: digest", x.digest(), empty());
        for (int what : new int[] {0, 1, 2, 3, 4, 7, 8, 9, 10, 11, 12}) {
            due("2: count " + what, x.count(what), 0);
        }
        due("2: no wish", x.wish(0, 0), NONE);
        due("2: no pair", x.value(0, 0, 0), BAD);
        things(0, 0, 0);
        for (int thing = 0; thing < 3; thing++) {
            due("2: not freed, " + thing, x.about(thing, 3), 0);
            due("2: not moved, " + thing, x.about(thing, 6), 0);
        }
        x.drop(0, 0);
        x.begin();
        due("2: the sweeping begins at 0", x.sweep(400), 2 + 1 + 3 + 1);
        due("2: which is freed", x.about(0, 3), 1);
    }

    private static int freedOneThenAttic() {
        fresh(0, 0);
        things(1);
        x.drop(0, 0);
        x.begin();
        return x.attic(0, 0);
    }

    // promise 3
    private static void make() {
        fresh(0, 0);
        due("3: n 6", x.make(2, 3, 6, true), 0);
        due("3: n 0", x.make(2, 3, 0, false), 1);
        due("3: the register holds it", x.holder(11), 1);
        due("3: fields", x.about(0, 0), 6);
        due("3: wish", x.about(0, 5), 1);
        due("3: no wish", x.about(1, 5), 0);
        due("3: place", x.about(1, 1), 7);
        due("3: white while nothing is under way", x.about(1, 2), 0);
        for (int wrong : WRONG) {
            due("3: owner", x.make(wrong, 0, 1, false), BAD);
            due("3: register", x.make(0, wrong, 1, false), BAD);
        }
        for (int wrong : new int[] {-1, 7, MOST, LEAST}) {
            due("3: n " + wrong, x.make(0, 0, wrong, false), BAD);
        }
        due("3: owner 3", x.make(3, 0, 1, false), BAD);
        due("3: register 4", x.make(0, 4, 1, false), BAD);
        leastPlaces();
        fullOfThings();
        fullOfCells();
    }

    private static void leastPlaces() {
        fresh(0, 0);
        things(2, 0, 3, 0, 1);
        x.drop(0, 0);
        x.drop(0, 2);
        due("3: two are freed", x.begin(), 2);
        due("3: too long for the first gap", x.make(2, 0, 3, false), 5);
        due("3: the second gap", x.about(5, 1), 4);
        x.make(2, 1, 1, false);
        due("3: the first gap", x.about(6, 1), 0);
        x.make(2, 2, 1, false);
        due("3: behind all, one cell is too few", x.about(7, 1), 11);
        x.make(2, 3, 0, false);
        due("3: the cell that is left", x.about(8, 1), 2);
    }

    private static void fullOfThings() {
        fresh(2, 0);
        for (int thing = 0; thing < 120; thing++) {
            due("3: make " + thing, x.make(0, 0, 0, false), thing);
        }
        due("3: 120 were made", x.make(0, 0, 0, false), FULL);
        x.begin();
        x.sweep(400);
        due("3: freed ones count", x.count(1), 1);
        due("3: 120 were made, though there is room", x.make(0, 0, 0, false), FULL);
        due("3: BAD before FULL", x.make(0, 0, 7, false), BAD);
        due("3: the register holds what it held", x.holder(0), 119);
    }

    private static void fullOfCells() {
        fresh(1, 0);
        for (int thing = 0; thing < 28; thing++) {
            due("3: make " + thing, x.make(0, 0, 6, false), thing);
        }
        due("3: four cells are left", x.make(0, 0, 4, false), FULL);
        due("3: four cells are enough", x.make(0, 1, 3, false), 28);
        due("3: its place", x.about(28, 1), 196);
        due("3: none is left", x.make(0, 1, 0, false), FULL);
        due("3: no free cell", x.count(5), 0);
        due("3: nor any behind another", x.count(6), 0);
    }

    private static void makeInHalves() {
        fresh(3, 0);
        for (int thing = 0; thing < 14; thing++) {
            x.make(0, 0, 6, false);
        }
        due("3: two cells are left", x.make(0, 1, 2, false), FULL);
        due("3: two cells are enough", x.make(0, 1, 1, false), 14);
        due("3: none is left", x.make(0, 2, 0, false), FULL);
        due("3: two are gray, the rest is waste", x.begin(), 2);
        due("3: the gray ones came to the other half", x.count(5), 91);
        due("3: white ones need all that is left", x.make(0, 2, 0, false), FULL);
        due("3: the round", x.sweep(400), 3);
        due("3: what is not marked is free", x.make(0, 2, 6, false), 15);
        due("3: behind all", x.about(15, 1), 109);

        fresh(3, 0);
        things(6, 6, 6, 6);
        x.put(0, 0, 0, 1);
        x.drop(0, 1);
        due("3: three are gray", x.begin(), 3);
        // 79 cells are left, 7 of them are the white thing's
        for (int thing = 4; thing < 14; thing++) {
            due("3: make " + thing, x.make(1, 0, 6, false), thing);
        }
        due("3: nine cells are left", x.count(5), 9);
        due("3: room for two", x.make(1, 0, 2, false), FULL);
        due("3: room for two", x.make(1, 0, 1, false), 14);
        due("3: as many as the white one has", x.make(1, 0, 0, false), FULL);
        x.sweep(1);
        due("3: the white one was moved to the end", x.about(1, 1), 193);
        due("3: no cell is left", x.make(1, 0, 0, false), FULL);

        fresh(3, 2);
        things(6);
        x.begin();
        for (int thing = 1; thing < 7; thing++) {
            due("3: fault 2, make " + thing, x.make(1, 0, 6, false), thing);
        }
        // 51 cells are left, 42 of them the new white things'
        due("3: a new white thing needs its cells twice", x.make(1, 0, 4, false), FULL);
        due("3: nine cells are not twice five, but twice four", x.make(1, 0, 3, false), 7);
    }

    // promise 4
    private static void move() {
        fresh(0, 0);
        things(1);
        due("4: a thing", x.move(0, 3, 0), 0);
        due("4: it is held", x.holder(3), 0);
        due("4: the other holds it still", x.holder(0), 0);
        due("4: nothing", x.move(0, 0, 1), NONE);
        due("4: nothing is held", x.holder(0), NONE);
        due("4: of one owner", x.move(1, 0, 3), NONE);
        due("4: itself", x.move(0, 3, 3), 0);
        for (int wrong : WRONG) {
            due("4: owner", x.move(wrong, 0, 0), BAD);
            due("4: r", x.move(0, wrong, 3), BAD);
            due("4: s", x.move(0, 3, wrong), BAD);
        }
        due("4: owner 3", x.move(3, 0, 0), BAD);
        due("4: r 4", x.move(0, 4, 0), BAD);
        due("4: s 4", x.move(0, 3, 4), BAD);
        due("4: it is held still", x.holder(3), 0);
    }

    // promise 5
    private static void get() {
        fresh(0, 0);
        things(2, 0);
        x.put(0, 0, 1, 1);
        due("5: a thing", x.get(0, 2, 0, 1), 1);
        due("5: it is held", x.holder(2), 1);
        due("5: nothing", x.get(0, 2, 0, 0), NONE);
        due("5: nothing is held", x.holder(2), NONE);
        due("5: into the same register", x.get(0, 0, 0, 1), 1);
        due("5: of an empty register", x.get(0, 0, 3, 0), NO);
        due("5: of a thing without fields", x.get(0, 0, 0, 0), NO);
        fresh(0, 0);
        things(2);
        for (int i : new int[] {2, 6, -1, MOST, LEAST}) {
            due("5: field " + i, x.get(0, 1, 0, i), NO);
        }
        for (int wrong : WRONG) {
            due("5: owner", x.get(wrong, 0, 0, 0), BAD);
            due("5: r", x.get(0, wrong, 0, 0), BAD);
            due("5: s", x.get(0, 0, wrong, 0), BAD);
        }
        due("5: owner 3", x.get(3, 0, 0, 0), BAD);
        due("5: r 4", x.get(0, 4, 0, 0), BAD);
        due("5: s 4", x.get(0, 0, 4, 0), BAD);
        lostInRegister();
        due("5: of one that is lost", x.get(1, 1, 1, 0), LOST);
        due("5: NO before LOST", x.get(1, 1, 1, 1), NO);
    }

    // promise 6
    private static void put() {
        fresh(0, 0);
        things(6, 1);
        due("6: a thing", x.put(0, 0, 5, 1), 1);
        due("6: it is there", x.field(0, 5), 1);
        due("6: another", x.put(0, 0, 5, 0), 1);
        due("6: it is there", x.field(0, 5), 0);
        due("6: nothing", x.put(0, 0, 5, 3), 1);
        due("6: nothing is there", x.field(0, 5), NONE);
        due("6: into an empty register", x.put(0, 2, 0, 0), NO);
        for (int i : new int[] {1, 5, -1, MOST, LEAST}) {
            due("6: field " + i, x.put(0, 1, i, 0), NO);
        }
        for (int wrong : WRONG) {
            due("6: owner", x.put(wrong, 0, 0, 0), BAD);
            due("6: r", x.put(0, wrong, 0, 0), BAD);
            due("6: s", x.put(0, 0, 0, wrong), BAD);
        }
        due("6: owner 3", x.put(3, 0, 0, 0), BAD);
        due("6: r 4", x.put(0, 4, 0, 0), BAD);
        due("6: s 4", x.put(0, 0, 0, 4), BAD);
        lostInRegister();
        due("6: into one that is lost", x.put(1, 1, 0, 1), LOST);
        due("6: NO before LOST", x.put(1, 1, 1, 1), NO);
        due("6: nothing is there", x.field(1, 0), NONE);
    }

    // promise 7
    private static void drop() {
        fresh(0, 0);
        things(0, 0);
        due("7: what it held", x.drop(0, 1), 1);
        due("7: nothing is held", x.holder(1), NONE);
        due("7: nothing", x.drop(0, 1), NONE);
        for (int wrong : WRONG) {
            due("7: owner", x.drop(wrong, 0), BAD);
            due("7: r", x.drop(0, wrong), BAD);
        }
        due("7: owner 3", x.drop(3, 0), BAD);
        due("7: r 4", x.drop(0, 4), BAD);
        due("7: the other is held", x.holder(0), 0);
    }

    // promises 8 and 9
    private static void storeAndLoad() {
        fresh(0, 0);
        things(0, 0);
        due("8: it held nothing", x.store(3, 0, 1), NONE);
        due("8: the slot holds it", x.holder(15), 1);
        due("8: what it held", x.store(3, 0, 0), 1);
        due("8: nothing is stored", x.store(3, 2, 2), 0);
        due("8: the slot holds nothing", x.holder(15), NONE);
        x.store(0, 0, 1);
        due("9: a thing", x.load(2, 3, 0), 1);
        due("9: it is held", x.holder(11), 1);
        due("9: the slot holds it still", x.holder(12), 1);
        due("9: nothing", x.load(2, 3, 1), NONE);
        due("9: nothing is held", x.holder(11), NONE);
        for (int wrong : WRONG) {
            due("8: k", x.store(wrong, 0, 0), BAD);
            due("8: owner", x.store(0, wrong, 0), BAD);
            due("8: r", x.store(0, 0, wrong), BAD);
            due("9: owner", x.load(wrong, 0, 0), BAD);
            due("9: r", x.load(0, wrong, 0), BAD);
            due("9: k", x.load(0, 0, wrong), BAD);
        }
        due("8: k 4", x.store(4, 0, 0), BAD);
        due("8: owner 3", x.store(0, 3, 0), BAD);
        due("8: r 4", x.store(0, 0, 4), BAD);
        due("9: owner 3", x.load(3, 0, 0), BAD);
        due("9: r 4", x.load(0, 4, 0), BAD);
        due("9: k 4", x.load(0, 0, 4), BAD);
        due("8: the slot is as it was", x.holder(12), 1);
    }

    // promise 10
    private static void same() {
        fresh(0, 0);
        things(0, 0);
        x.store(0, 0, 1);
        x.load(2, 0, 0);
        due("10: the same", x.same(0, 1, 2, 0), 1);
        due("10: another", x.same(0, 0, 2, 0), 0);
        due("10: both nothing", x.same(1, 1, 2, 3), 1);
        due("10: one nothing", x.same(0, 0, 2, 3), 0);
        due("10: itself", x.same(0, 0, 0, 0), 1);
        for (int wrong : WRONG) {
            due("10: owner", x.same(wrong, 0, 0, 0), BAD);
            due("10: r", x.same(0, wrong, 0, 0), BAD);
            due("10: other", x.same(0, 0, wrong, 0), BAD);
            due("10: s", x.same(0, 0, 0, wrong), BAD);
        }
        due("10: owner 3", x.same(3, 0, 0, 0), BAD);
        due("10: r 4", x.same(0, 4, 0, 0), BAD);
        due("10: other 3", x.same(0, 0, 3, 0), BAD);
        due("10: s 4", x.same(0, 0, 0, 4), BAD);
    }

    // promises 11 and 12
    private static void weakAndStrong() {
        fresh(0, 0);
        things(0, 0);
        due("11: a thing", x.weak(5, 0, 1), 1);
        due("11: it is named", x.holder(21), 1);
        due("11: an empty register", x.weak(5, 1, 0), NO);
        due("11: it is named still", x.holder(21), 1);
        due("12: a thing", x.strong(2, 1, 5), 1);
        due("12: it is held", x.holder(9), 1);
        due("12: nothing", x.strong(2, 1, 4), NONE);
        due("12: nothing is held", x.holder(9), NONE);
        x.weak(0, 0, 0);
        x.drop(0, 1);
        due("12: the one that only a weak holder names is freed", x.begin(), 1);
        due("12: what is freed is named no more", x.strong(0, 1, 5), NONE);
        due("12: what is held is named still", x.strong(0, 1, 0), 0);
        for (int wrong : WRONG) {
            due("11: k", x.weak(wrong, 0, 0), BAD);
            due("11: owner", x.weak(0, wrong, 0), BAD);
            due("11: r", x.weak(0, 0, wrong), BAD);
            due("12: owner", x.strong(wrong, 0, 0), BAD);
            due("12: r", x.strong(0, wrong, 0), BAD);
            due("12: k", x.strong(0, 0, wrong), BAD);
        }
        due("11: owner 3", x.weak(0, 3, 0), BAD);
        due("11: r 4", x.weak(0, 0, 4), BAD);
        due("12: owner 3", x.strong(3, 0, 0), BAD);
        due("12: r 4", x.strong(0, 4, 0), BAD);
        due("11: BAD before NO", x.weak(6, 1, 0), BAD);
    }

    // promises 13 and 14
    private static void pairAndValue() {
        fresh(0, 0);
        things(0, 0, 0);
        due("13: no key", x.pair(0, 3, 0), NO);
        due("13: no value", x.pair(0, 0, 3), NO);
        due("14: there was none such", x.value(0, 0, 0), BAD);
        due("13: the first", x.pair(0, 0, 1), 0);
        due("13: its key", x.holder(22), 0);
        due("13: itself", x.pair(0, 2, 2), 1);
        due("14: a value", x.value(1, 0, 0), 1);
        due("14: it is held", x.holder(4), 1);
        due("14: there was none such yet", x.value(0, 0, 2), BAD);
        x.drop(0, 0);
        x.drop(0, 1);
        x.drop(0, 2);
        due("13: what is key and value of itself only is freed", x.begin(), 2);
        due("14: dropped", x.value(1, 0, 0), NONE);
        due("14: the register holds nothing then", x.holder(4), NONE);
        due("14: dropped, too", x.value(1, 0, 1), NONE);
        due("14: none is left", x.count(12), 0);
        x.make(0, 0, 0, false);
        for (int pair = 2; pair < 8; pair++) {
            due("13: pair " + pair, x.pair(0, 0, 0), pair);
        }
        due("13: dropped ones count", x.pair(0, 0, 0), FULL);
        due("13: NO before FULL", x.pair(0, 0, 1), NO);
        due("13: BAD before NO", x.pair(0, 4, 1), BAD);
        for (int wrong : WRONG) {
            due("13: owner", x.pair(wrong, 0, 0), BAD);
            due("13: r", x.pair(0, wrong, 0), BAD);
            due("13: s", x.pair(0, 0, wrong), BAD);
            due("14: owner", x.value(wrong, 0, 2), BAD);
            due("14: r", x.value(0, wrong, 2), BAD);
        }
        for (int wrong : new int[] {-1, 8, MOST, LEAST}) {
            due("14: pair " + wrong, x.value(0, 0, wrong), BAD);
        }
        due("13: owner 3", x.pair(3, 0, 0), BAD);
        due("14: owner 3", x.value(3, 0, 2), BAD);
        due("14: r 4", x.value(0, 4, 2), BAD);
    }

    // promise 15
    private static void wish() {
        fresh(0, 0);
        due("15: none", x.wish(0, 0), NONE);
        x.make(0, 0, 1, true);
        x.make(0, 1, 0, false);
        x.make(0, 2, 0, true);
        x.put(0, 0, 0, 1);
        x.drop(0, 0);
        x.drop(0, 1);
        x.drop(0, 2);
        due("15: wishing ones are not freed, nor what they hold", x.begin(), 0);
        due("15: wishes", x.count(11), 2);
        due("15: none has a wish any more", x.about(0, 5) + x.about(2, 5), 0);
        x.make(1, 1, 0, false);
        due("15: the first", x.wish(1, 1), 0);
        due("15: it is held", x.holder(5), 0);
        due("15: it goes from the wishes", x.holder(30), 2);
        due("15: the next", x.wish(1, 2), 2);
        due("15: none, the register holds what it held", x.wish(1, 1), NONE);
        due("15: held still", x.holder(5), 0);
        x.drop(1, 1);
        x.drop(1, 2);
        due("15: without a wish they are freed", x.begin(), 4);
        for (int wrong : WRONG) {
            due("15: owner", x.wish(wrong, 0), BAD);
            due("15: r", x.wish(0, wrong), BAD);
        }
        due("15: owner 3", x.wish(3, 0), BAD);
        due("15: r 4", x.wish(0, 4), BAD);
    }

    // promise 16
    private static void begin() {
        fresh(0, 0);
        things(0, 0, 0);
        x.drop(0, 1);
        due("16: manner 0, freed", x.begin(), 1);
        due("16: manner 0, none freed", x.begin(), 0);
        due("16: rounds", x.count(7), 2);
        for (int manner = 1; manner < 4; manner++) {
            fresh(manner, 0);
            things(1, 0, 0);
            x.put(0, 0, 0, 1);
            x.drop(0, 1);
            x.store(0, 0, 0);
            due("16: gray", x.begin(), 2);
            due("16: one is under way", x.begin(), NO);
            x.sweep(2);
            due("16: one is under way still", x.begin(), NO);
            x.sweep(400);
            due("16: it is over", x.begin(), 2);
        }
    }

    // promise 17
    private static void sweep() {
        for (int manner = 0; manner < 4; manner++) {
            fresh(manner, 0);
            for (int wrong : new int[] {0, -1, 401, MOST, LEAST}) {
                due("17: n " + wrong, x.sweep(wrong), BAD);
            }
            due("17: none is under way", x.sweep(1), 0);
            due("17: none is under way", x.sweep(400), 0);
        }
        fresh(1, 0);
        things(0, 0);
        x.drop(0, 1);
        x.begin();
        due("17: a step", x.sweep(1), 1);
        due("17: black", x.about(0, 2), 2);
        due("17: marking", x.under(), 1);
        due("17: the step that ends it", x.sweep(1), 1);
        due("17: sweeping", x.under(), 2);
        due("17: not freed yet", x.about(1, 3), 0);
        due("17: up to two", x.sweep(2), 2);
        due("17: freed", x.about(1, 3), 1);
        due("17: sweeping still", x.under(), 2);
        due("17: the one by which it is over", x.sweep(400), 1);
        due("17: over", x.under(), 0);
        due("17: steps", x.count(8), 5);
        fresh(3, 0);
        things(0, 0);
        x.drop(0, 1);
        x.begin();
        due("17: manner 3 ends with the marking", x.sweep(400), 2);
        due("17: freed at once", x.about(1, 3), 1);
        x.drop(0, 0);
        x.begin();
        due("17: the end alone", x.sweep(400), 1);
        due("17: thing 0 is freed, too", x.about(0, 3), 1);
        newOnesAreSweptToo();
    }

    private static void newOnesAreSweptToo() {
        fresh(2, 0);
        things(0);
        x.begin();
        x.sweep(3);
        due("17: all but the end", x.under(), 2);
        x.make(0, 1, 0, false);
        due("17: the new one, then the end", x.sweep(400), 2);
        due("17: the new one is black", x.about(1, 2), 2);
    }

    // promise 18
    private static void under() {
        fresh(2, 0);
        due("18: nothing", x.under(), 0);
        x.begin();
        due("18: marking", x.under(), 1);
        x.sweep(1);
        due("18: sweeping", x.under(), 2);
        x.sweep(1);
        due("18: nothing", x.under(), 0);
        fresh(3, 0);
        x.begin();
        due("18: marking", x.under(), 1);
        x.sweep(1);
        due("18: manner 3 is over", x.under(), 0);
        due("18: a round", x.count(7), 1);
    }

    // promise 19
    private static void about() {
        fresh(3, 0);
        things(3, 0);
        x.make(0, 2, 2, true);
        int[] first = {3, 0, 0, 0, 1, 0, 0};
        int[] wishing = {2, 5, 0, 0, 1, 1, 0};
        for (int what = 0; what < 7; what++) {
            due("19: about 0, " + what, x.about(0, what), first[what]);
            due("19: about 2, " + what, x.about(2, what), wishing[what]);
        }
        x.drop(0, 1);
        x.drop(0, 2);
        due("19: not reached", x.about(1, 4), 0);
        x.begin();
        due("19: gray", x.about(0, 2), 1);
        due("19: place", x.about(0, 1), 100);
        due("19: moved", x.about(0, 6), 1);
        x.sweep(400);
        int[] freed = {0, NONE, 0, 1, 0, 0, 0};
        for (int what = 0; what < 7; what++) {
            due("19: about the freed one, " + what, x.about(1, what), freed[what]);
        }
        due("19: its wish is granted", x.about(2, 5), 0);
        due("19: it is in the wishes", x.about(2, 4), 1);
        due("19: it was moved", x.about(2, 1), 104);
        x.begin();
        x.sweep(400);
        due("19: moved twice", x.about(0, 6), 2);
        due("19: back", x.about(0, 1), 0);
        for (int wrong : new int[] {-1, 3, 120, MOST, LEAST}) {
            due("19: thing " + wrong, x.about(wrong, 0), BAD);
        }
        for (int wrong : new int[] {-1, 7, MOST, LEAST}) {
            due("19: what " + wrong, x.about(0, wrong), BAD);
        }
    }

    // promise 20
    private static void field() {
        fresh(0, 0);
        things(2, 1);
        x.put(0, 0, 1, 1);
        x.put(0, 1, 0, 0);
        due("20: nothing", x.field(0, 0), NONE);
        due("20: a thing", x.field(0, 1), 1);
        for (int i : new int[] {2, 6, -1, MOST, LEAST}) {
            due("20: none such, " + i, x.field(0, i), NONE);
        }
        due("20: not the next thing's", x.field(1, 1), NONE);
        x.drop(0, 0);
        x.drop(0, 1);
        due("20: both are freed, though each holds the other", x.begin(), 2);
        due("20: of a freed one", x.field(0, 1), 1);
        for (int wrong : new int[] {-1, 2, 120, MOST, LEAST}) {
            due("20: thing " + wrong, x.field(wrong, 0), BAD);
        }
    }

    // promise 21
    private static void holder() {
        fresh(0, 0);
        due("21: nothing at first", x.holder(0), NONE);
        for (int k = 0; k < 12; k++) {
            x.make(k / 4, k % 4, 0, true);
        }
        for (int k = 0; k < 12; k++) {
            due("21: register " + k, x.holder(k), k);
        }
        for (int k = 0; k < 4; k++) {
            x.store(k, 1, k);
            due("21: slot " + k, x.holder(12 + k), 4 + k);
        }
        for (int k = 0; k < 6; k++) {
            x.weak(k, k / 4, k % 4);
            due("21: weak holder " + k, x.holder(16 + k), k);
        }
        for (int k = 0; k < 7; k++) {
            x.pair(2, k % 4, 0);
            due("21: pair " + k, x.holder(22 + k), 8 + k % 4);
        }
        due("21: a pair that never was", x.holder(29), NONE);
        due("21: no wish", x.holder(30), NONE);
        x.drop(0, 2);
        x.drop(2, 1);
        x.begin();
        due("21: the first wish", x.holder(30), 2);
        due("21: the next", x.holder(31), 9);
        due("21: no third", x.holder(32), NONE);
        due("21: the pair is not dropped", x.holder(23), 9);
        x.wish(0, 2);
        x.wish(0, 2);
        x.begin();
        x.drop(0, 2);
        x.begin();
        due("21: a pair that is dropped", x.holder(23), NONE);
        due("21: far off", x.holder(MOST), NONE);
        due("21: far off", x.holder(200), NONE);
        due("21: -1", x.holder(-1), BAD);
        due("21: least", x.holder(LEAST), BAD);
    }

    // promise 22
    private static void cell() {
        fresh(0, 0);
        things(1, 0);
        int[] first = {0, 0, 1, NONE};
        for (int k = 0; k < 4; k++) {
            due("22: cell " + k, x.cell(k), first[k]);
        }
        due("22: the last", x.cell(199), NONE);
        for (int wrong : new int[] {-1, 200, MOST, LEAST}) {
            due("22: " + wrong, x.cell(wrong), BAD);
        }
        x.drop(0, 0);
        x.begin();
        due("22: freed", x.cell(0), NONE);
        due("22: not freed", x.cell(2), 1);

        fresh(3, 0);
        things(1, 1, 0);
        x.put(0, 0, 0, 1);
        x.drop(0, 1);
        x.begin();
        due("22: moved from there", x.cell(0), NONE);
        due("22: moved to there", x.cell(101), 0);
        due("22: not moved yet", x.cell(2), 1);
        due("22: not moved yet", x.cell(3), 1);
        due("22: by registers", x.cell(102), 2);
        x.sweep(1);
        due("22: moved from there", x.cell(2), NONE);
        due("22: moved behind all", x.cell(104), 1);
    }

    // promise 23
    private static void count() {
        fresh(1, 0);
        things(2, 0, 3, 0);
        x.make(1, 0, 0, true);
        x.put(0, 0, 0, 1);
        x.pair(0, 0, 3);
        x.pair(0, 2, 3);
        x.drop(0, 1);
        x.drop(0, 2);
        x.drop(0, 3);
        x.drop(1, 0);
        counts("before", 5, 5, 3, 0, 2, 190, 190, 0, 0, 0, 0, 0, 2);
        x.begin();
        x.sweep(2);
        counts("while marking", 5, 5, 3, 0, 2, 190, 190, 0, 2, 2, 0, 0, 2);
        x.sweep(400);
        // two marked, the value, one marked, the wish, one marked, the end; five swept and the end
        counts("after", 5, 4, 4, 0, 0, 194, 190, 1, 13, 4, 0, 1, 1);
        x.begin();
        counts("again", 5, 4, 4, 0, 0, 194, 190, 1, 0, 2, 0, 1, 1);
        for (int wrong : new int[] {-1, 13, MOST, LEAST}) {
            due("23: what " + wrong, x.count(wrong), BAD);
        }
        chainIsReached();

        fresh(3, 0);
        things(2, 0, 3);
        x.drop(0, 1);
        counts("in halves", 3, 3, 2, 0, 1, 92, 92, 0, 0, 0, 0, 0, 0);
        x.begin();
        counts("in the other half", 3, 3, 2, 0, 1, 93, 93, 0, 0, 2, 2, 0, 0);
        x.sweep(400);
        counts("over", 3, 2, 2, 0, 0, 93, 93, 1, 3, 2, 2, 0, 0);
        x.drop(0, 2);
        x.begin();
        x.sweep(400);
        counts("over again", 3, 1, 1, 0, 0, 97, 97, 2, 2, 1, 3, 0, 0);
        lostInRegister();
        counts("lost", 2, 1, 2, 1, 0, 199, 199, 1, 5, 1, 0, 0, 0);
    }

    /** 60 things, each in a field of the next one, and the last in a register. */
    private static void chainIsReached() {
        fresh(0, 0);
        x.make(0, 0, 1, false);
        for (int thing = 1; thing < 60; thing++) {
            x.make(0, 1, 2, false);
            x.put(0, 1, thing % 2, 0);
            x.move(0, 0, 1);
        }
        x.drop(0, 1);
        due("23: all are reached", x.count(2), 60);
        due("23: the first is reached", x.about(0, 4), 1);
        due("23: all are kept", x.begin(), 0);
        x.get(0, 0, 0, 1);
        due("23: all but the last", x.count(2), 59);
        due("23: the last is waste", x.count(4), 1);
        x.drop(0, 0);
        due("23: none is reached", x.count(2), 0);
        due("23: all are waste", x.count(4), 60);
    }

    private static void counts(String when, int... want) {
        for (int what = 0; what < 13; what++) {
            due("23: " + when + ", count " + what, x.count(what), want[what]);
        }
    }

    // promise 24
    private static void lost() {
        fresh(1, 2);
        due("24: nothing", x.lost(), NONE);
        things(0);
        x.begin();
        x.make(1, 0, 0, false);
        x.make(1, 1, 0, false);
        x.make(1, 2, 0, false);
        due("24: not freed yet", x.lost(), NONE);
        x.sweep(400);
        due("24: the least", x.lost(), 1);
        x.drop(1, 0);
        due("24: the next", x.lost(), 2);
        x.drop(1, 1);
        due("24: the next", x.lost(), 3);
        x.drop(1, 2);
        due("24: none is reached", x.lost(), NONE);
        throughFieldsAndPairs();
    }

    private static void throughFieldsAndPairs() {
        fresh(1, 2);
        things(1);
        x.begin();
        x.sweep(1);
        x.make(0, 1, 1, false);
        x.make(0, 2, 0, false);
        x.put(0, 0, 0, 1);
        x.put(0, 1, 0, 2);
        x.drop(0, 1);
        x.drop(0, 2);
        x.sweep(400);
        due("24: held by a field", x.lost(), 1);
        due("24: what a freed one holds is not reached", x.about(2, 4), 0);
        due("24: but freed", x.about(2, 3), 1);
        due("24: one is lost", x.count(3), 1);
        x.get(0, 1, 0, 0);
        x.pair(0, 0, 1);
        x.put(0, 0, 0, 3);
        x.drop(0, 1);
        due("24: the value of a pair", x.lost(), 1);
        x.drop(0, 0);
        due("24: whose key is not reached", x.lost(), NONE);
    }

    // promise 25
    private static void digest() {
        fresh(1, 0);
        things(2, 0, 0);
        x.put(0, 0, 1, 1);
        x.drop(0, 1);
        x.drop(0, 2);
        x.begin();
        x.sweep(400);
        x.store(1, 0, 0);
        x.weak(2, 0, 0);
        x.pair(0, 0, 0);
        x.begin();
        int[] row = new int[42];
        java.util.Arrays.fill(row, NONE);
        int[] things = {0, 1, 0, NONE, 1, 3, 0, 0, NONE, 0, 1};
        System.arraycopy(things, 0, row, 0, things.length);
        row[things.length] = 0;
        row[things.length + 13] = 0;
        row[things.length + 18] = 0;
        row[things.length + 22] = 0;
        row[41] = 1;
        long h = 3;
        for (int v : row) {
            h = 31 * h + v;
        }
        due("25: digest", x.digest(), h);
        due("25: again", x.digest(), h);
    }

    private static void refusalsChangeNothing() {
        lostInRegister();
        x.pair(0, 0, 0);
        x.begin();
        long before = x.digest();
        int[] counts = new int[13];
        for (int what = 0; what < 13; what++) {
            counts[what] = x.count(what);
        }
        x.attic(4, 0);
        x.make(0, 0, 7, true);
        x.move(0, 4, 0);
        x.get(0, 0, 2, 0);
        x.get(1, 0, 1, 0);
        x.put(0, 0, 0, 0);
        x.put(1, 1, 0, 0);
        x.drop(0, 4);
        x.store(4, 0, 0);
        x.load(0, 0, 4);
        x.weak(0, 2, 2);
        x.strong(0, 0, 6);
        x.pair(0, 0, 2);
        x.value(0, 0, 1);
        x.wish(3, 0);
        x.begin();
        x.sweep(401);
        due("refused calls change nothing", x.digest(), before);
        for (int what = 0; what < 13; what++) {
            due("refused calls leave count " + what, x.count(what), counts[what]);
        }
    }

    private static void refusalsInTheirOrder() {
        lostInRegister();
        due("BAD before NO", x.get(1, 4, 0, 0), BAD);
        due("BAD before LOST", x.get(1, 4, 1, 0), BAD);
        due("BAD before NO", x.put(1, 0, 0, 4), BAD);
        due("BAD before LOST", x.put(1, 1, 0, 4), BAD);
        due("LOST", x.put(1, 1, 0, 0), LOST);
    }

    /** A new thing's colour, and what a round makes of colours. */
    private static void colours() {
        for (int manner = 1; manner < 4; manner++) {
            fresh(manner, 0);
            things(0, 0);
            x.begin();
            x.make(0, 2, 0, false);
            due("black while marking", x.about(2, 2), 2);
            x.sweep(400);
            due("black when it is over", x.about(0, 2), 2);
            x.make(0, 3, 0, false);
            due("white while nothing is under way", x.about(3, 2), 0);
            x.drop(0, 1);
            due("three are gray", x.begin(), 3);
            due("black ones become white", x.about(1, 2), 0);
        }
        fresh(1, 0);
        x.begin();
        x.sweep(1);
        x.make(0, 0, 0, false);
        due("black while sweeping", x.about(0, 2), 2);
    }

    private static void marking() {
        fresh(3, 0);
        things(0, 3, 0, 0, 0);
        x.put(0, 1, 0, 3);
        x.put(0, 1, 2, 0);
        x.store(0, 0, 0);
        x.store(1, 0, 2);
        x.drop(0, 0);
        x.drop(0, 2);
        x.drop(0, 3);
        due("registers, then slots", x.begin(), 4);
        int[] places = {105, 100, 106, 6, 104};
        for (int thing = 0; thing < 5; thing++) {
            due("place of " + thing, x.about(thing, 1), places[thing]);
        }
        due("the least gray one", x.sweep(1), 1);
        due("it is black", x.about(0, 2), 2);
        due("the next is gray", x.about(1, 2), 1);
        x.sweep(1);
        due("what its fields hold is gray", x.about(3, 2), 1);
        due("and behind all", x.about(3, 1), 107);
        due("it is black", x.about(1, 2), 2);
    }

    private static void markingWithPairsAndWishes() {
        for (int manner = 1; manner < 4; manner++) {
            fresh(manner, 0);
            // pair 0 hangs on pair 1: a second pass is needed
            things(0, 0, 0);
            x.pair(0, 1, 2);
            x.pair(0, 0, 1);
            x.make(2, 0, 1, true);
            x.make(2, 1, 0, true);
            x.put(2, 0, 0, 1);
            x.weak(0, 0, 2);
            x.weak(1, 2, 1);
            for (int r = 1; r < 4; r++) {
                x.drop(0, r);
            }
            x.drop(2, 0);
            x.drop(2, 1);
            due("one is held", x.begin(), 1);
            x.sweep(1);
            due("values come when none is gray", x.about(1, 2), 0);
            x.sweep(1);
            due("the value of a marked key", x.about(1, 2), 1);
            due("not yet that of its own key", x.about(2, 2), 0);
            due("and no wish", x.count(11), 0);
            x.sweep(2);
            due("now the other", x.about(2, 2), 1);
            x.sweep(1);
            due("no wish yet", x.count(11), 0);
            due("nor a step more", x.count(8), 5);
            x.sweep(1);
            due("wishes, all at once", x.count(11), 2);
            due("both are gray", x.about(3, 2) + x.about(4, 2), 2);
            x.sweep(400);
            due("all are kept", x.count(1), 5);
            due("named still", x.holder(16), 2);
            due("named still", x.holder(17), 4);
            due("pairs are kept", x.count(12), 2);
        }
        passesOverAllPairs();
    }

    private static void passesOverAllPairs() {
        fresh(1, 0);
        things(0, 0, 0);
        x.pair(0, 0, 1);
        x.pair(0, 1, 2);
        x.drop(0, 1);
        x.drop(0, 2);
        x.begin();
        x.sweep(2);
        due("one pass takes pair after pair", x.about(1, 2) + x.about(2, 2), 2);
    }

    /** Thing 0 holds thing 2; things 0 and 1 are in registers 0 and 1, 0 is gray, 2 white. */
    private static void chained(int manner, int fault) {
        fresh(manner, fault);
        things(1, 1, 0);
        x.put(0, 0, 0, 2);
        x.drop(0, 2);
        x.begin();
    }

    private static void noteOld() {
        chained(1, 0);
        x.put(0, 0, 0, 3);
        due("manner 1: what was there is shaded", x.about(2, 2), 1);
        chained(1, 0);
        x.get(0, 2, 0, 0);
        due("manner 1: what is read is not", x.about(2, 2), 0);
        x.put(0, 1, 0, 2);
        due("manner 1: what is put there is not", x.about(2, 2), 0);
        x.put(0, 0, 0, 2);
        due("manner 1: the same is put there", x.about(2, 2), 1);
        weakReads(1, 1);
    }

    private static void noteNew() {
        chained(2, 0);
        x.get(0, 2, 0, 0);
        due("manner 2: what is read is not shaded", x.about(2, 2), 0);
        x.put(0, 0, 0, 3);
        due("manner 2: what was there is not", x.about(2, 2), 0);
        x.put(0, 1, 0, 2);
        due("manner 2: what is put there is", x.about(2, 2), 1);
        chained(2, 0);
        x.get(0, 2, 0, 0);
        x.put(0, 0, 0, 3);
        x.sweep(2);
        due("manner 2: both are black", x.about(0, 2) + x.about(1, 2), 4);
        x.sweep(1);
        due("manner 2: what is held is shaded again", x.about(2, 2), 1);
        weakReads(2, 0);
    }

    private static void noteRead() {
        chained(3, 0);
        x.put(0, 0, 0, 3);
        due("manner 3: what was there is not shaded", x.about(2, 2), 0);
        chained(3, 0);
        x.get(0, 2, 0, 0);
        due("manner 3: what is read is", x.about(2, 2), 1);
        due("manner 3: and moved", x.about(2, 1), 104);
        weakReads(3, 1);
    }

    private static void weakReads(int manner, int colour) {
        chainedWeakly(manner, 0);
        x.strong(0, 2, 0);
        due("what is read from a weak holder, manner " + manner, x.about(2, 2), colour);
        chainedWeakly(manner, 0);
        x.value(0, 2, 0);
        due("what is read as a value, manner " + manner, x.about(2, 2), colour);
        x.sweep(400);
        due("it is not lost", x.lost(), NONE);
        chainedWeakly(manner, 1);
        x.strong(0, 2, 0);
        due("fault 1: no note, manner " + manner, x.about(2, 2), 0);
        x.value(0, 2, 0);
        due("fault 1: no note, manner " + manner, x.about(2, 2), 0);
    }

    /** As chained, but a weak holder names thing 2, and a pair has it as its value, before the round begins. */
    private static void chainedWeakly(int manner, int fault) {
        fresh(manner, fault);
        things(1, 1, 0);
        x.put(0, 0, 0, 2);
        x.weak(0, 0, 2);
        x.pair(0, 1, 2);
        x.drop(0, 2);
        x.strong(1, 0, 0);
        x.drop(1, 0);
        x.begin();
    }

    /** What is taken from a white thing and put into a black one, or held, without a note. */
    private static void missingNotes() {
        for (int fault = 0; fault < 2; fault++) {
            chained(1, fault);
            x.get(0, 2, 0, 0);
            x.put(0, 0, 0, 3);
            x.sweep(400);
            due("manner 1, fault " + fault, x.lost(), fault == 1 ? 2 : NONE);

            fresh(2, fault);
            things(1, 1, 0);
            x.put(0, 1, 0, 2);
            x.drop(0, 2);
            x.begin();
            x.sweep(1);
            x.get(0, 2, 1, 0);
            x.put(0, 0, 0, 2);
            x.put(0, 1, 0, 3);
            x.drop(0, 2);
            x.sweep(400);
            due("manner 2, fault " + fault, x.lost(), fault == 1 ? 2 : NONE);

            chained(3, fault);
            x.get(0, 2, 0, 0);
            x.put(0, 0, 0, 3);
            x.sweep(400);
            due("manner 3, fault " + fault, x.lost(), fault == 1 ? 2 : NONE);
        }
    }

    private static void whiteNewOnes() {
        for (int manner = 1; manner < 4; manner++) {
            fresh(manner, 2);
            x.begin();
            x.make(0, 0, 0, true);
            x.make(0, 1, 0, false);
            due("fault 2: white while marking", x.about(1, 2), 0);
            x.sweep(400);
            due("fault 2: the wishing one is kept", x.about(0, 3), 0);
            due("fault 2: the other is lost but in manner 2", x.lost(), manner == 2 ? NONE : 1);
        }
        fresh(2, 2);
        x.begin();
        x.sweep(1);
        x.make(0, 0, 0, true);
        due("fault 2: white while sweeping", x.about(0, 2), 0);
        x.sweep(400);
        due("fault 2: lost", x.lost(), 0);
        due("fault 2: with its wish", x.about(0, 5), 1);
        x.weak(0, 0, 0);
        x.pair(0, 0, 0);
        due("a freed one is not shaded", x.begin(), 0);
        x.sweep(400);
        due("its wish is not granted", x.count(11), 0);
        due("it is white: named no more", x.holder(16), NONE);
        due("it is white: its pair is dropped", x.holder(22), NONE);
        due("lost still", x.lost(), 0);
    }
}
