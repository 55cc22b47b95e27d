/**
 * An attic whose things are held by owners while a sweeper marks, copies and frees beside them,
 * step by step between their acts. README.md tells how to use it.
 */
public final class AtticSweep {
    public static final int NONE = -1, BAD = -2, NO = -3, FULL = -4, LOST = -5;

    private static final int CELLS = 200, HALF_CELLS = 100, THINGS = 120, FIELDS = 6;
    private static final int OWNERS = 3, REGISTERS = 4, SLOTS = 4, WEAK_HOLDERS = 6, PAIRS = 8;

    /** Where the parts begin in the row of what holds: registers, slots, wishes. */
    private static final int FIRST_SLOT = OWNERS * REGISTERS, FIRST_WISH = FIRST_SLOT + SLOTS;

    /** Where the parts begin in the numbering of holder(k). */
    private static final int WEAK_FROM = 16, PAIRS_FROM = 22, WISHES_FROM = 30;

    private static final int ALL_AT_ONCE = 0, NOTE_OLD = 1, NOTE_NEW = 2, HALVES = 3, MANNERS = 4;
    private static final int NOTES_MISSING = 1, NEW_ONES_WHITE = 2, FAULTS = 3;
    private static final int WHITE = 0, GRAY = 1, BLACK = 2;
    private static final int NOTHING = 0, MARKING = 1, SWEEPING = 2;
    private static final int MOST_STEPS = 400;

    /** Far more steps than any round has: 120 things are marked, rescued and swept once each. */
    private static final int STEPS_OF_ANY_ROUND = 1000000;

    private final Things things = new Things();
    private final Cells cells = new Cells();
    private final Holders holders = new Holders();
    private final Pairs pairs = new Pairs();
    private final Reach reach = new Reach();
    private int manner;
    private int fault;
    private int underWay;
    private int nextToSweep;
    private int rounds;
    private int steps;
    private int shaded;
    private int moved;

    public AtticSweep() {
        empty(ALL_AT_ONCE, 0);
    }

    public int attic(int manner, int fault) {
        if (manner < 0 || manner >= MANNERS || fault < 0 || fault >= FAULTS) {
            return BAD;
        }
        int made = things.made;
        empty(manner, fault);
        return made;
    }

    private void empty(int newManner, int newFault) {
        manner = newManner;
        fault = newFault;
        underWay = NOTHING;
        nextToSweep = 0;
        rounds = 0;
        steps = 0;
        shaded = 0;
        moved = 0;
        things.made = 0;
        pairs.made = 0;
        cells.empty();
        holders.empty();
    }

    // ---- owners' acts

    public int make(int owner, int register, int n, boolean wish) {
        if (!isRegister(owner, register) || n < 0 || n > FIELDS) {
            return BAD;
        }
        if (things.made >= THINGS) {
            return FULL;
        }
        int colour = colourOfNew();
        int place = placeOfNew(n + 1, colour);
        if (place == NONE) {
            return FULL;
        }
        int thing = things.add(n, wish, colour, place);
        if (manner == HALVES) {
            cells.takeBehind(n + 1, thing);
        } else {
            cells.assign(place, n + 1, thing);
        }
        return holders.hold(registerAt(owner, register), thing);
    }

    private int colourOfNew() {
        return underWay != NOTHING && fault != NEW_ONES_WHITE ? BLACK : WHITE;
    }

    private int placeOfNew(int size, int colour) {
        if (manner != HALVES) {
            return cells.leastPlace(size);
        }
        int wanted = size;
        if (underWay == MARKING) {
            // every white thing may yet be moved here, the new one too if it is white
            wanted += things.cellsOfWhite() + (colour == WHITE ? size : 0);
        }
        return cells.leftBehind() < wanted ? NONE : cells.behind;
    }

    public int move(int owner, int r, int s) {
        if (!isRegister(owner, r) || !isRegister(owner, s)) {
            return BAD;
        }
        return holders.hold(registerAt(owner, r), inRegister(owner, s));
    }

    public int get(int owner, int r, int s, int i) {
        if (!isRegister(owner, r) || !isRegister(owner, s)) {
            return BAD;
        }
        int thing = inRegister(owner, s);
        int refusal = refusalOfField(thing, i);
        if (refusal != 0) {
            return refusal;
        }
        int read = things.inField(thing, i);
        if (manner == HALVES) {
            note(read);
        }
        return holders.hold(registerAt(owner, r), read);
    }

    public int put(int owner, int r, int i, int s) {
        if (!isRegister(owner, r) || !isRegister(owner, s)) {
            return BAD;
        }
        int thing = inRegister(owner, r);
        int refusal = refusalOfField(thing, i);
        if (refusal != 0) {
            return refusal;
        }
        int written = inRegister(owner, s);
        if (manner == NOTE_OLD) {
            note(things.inField(thing, i));
        }
        if (manner == NOTE_NEW) {
            note(written);
        }
        things.setField(thing, i, written);
        return 1;
    }

    /** NO or LOST if field i of the thing can't be used, else 0. */
    private int refusalOfField(int thing, int i) {
        if (!things.hasField(thing, i)) {
            return NO;
        }
        return things.isFreed(thing) ? LOST : 0;
    }

    public int drop(int owner, int r) {
        if (!isRegister(owner, r)) {
            return BAD;
        }
        int held = inRegister(owner, r);
        holders.hold(registerAt(owner, r), NONE);
        return held;
    }

    public int store(int k, int owner, int r) {
        if (!isSlot(k) || !isRegister(owner, r)) {
            return BAD;
        }
        int held = holders.heldAt(FIRST_SLOT + k);
        holders.hold(FIRST_SLOT + k, inRegister(owner, r));
        return held;
    }

    public int load(int owner, int r, int k) {
        if (!isRegister(owner, r) || !isSlot(k)) {
            return BAD;
        }
        return holders.hold(registerAt(owner, r), holders.heldAt(FIRST_SLOT + k));
    }

    public int same(int owner, int r, int other, int s) {
        if (!isRegister(owner, r) || !isRegister(other, s)) {
            return BAD;
        }
        return inRegister(owner, r) == inRegister(other, s) ? 1 : 0;
    }

    public int weak(int k, int owner, int r) {
        if (!isWeakHolder(k) || !isRegister(owner, r)) {
            return BAD;
        }
        int thing = inRegister(owner, r);
        if (thing == NONE) {
            return NO;
        }
        holders.name(k, thing);
        return 1;
    }

    public int strong(int owner, int r, int k) {
        if (!isRegister(owner, r) || !isWeakHolder(k)) {
            return BAD;
        }
        int named = holders.namedBy(k);
        noteWeakRead(named);
        return holders.hold(registerAt(owner, r), named);
    }

    public int pair(int owner, int r, int s) {
        if (!isRegister(owner, r) || !isRegister(owner, s)) {
            return BAD;
        }
        int key = inRegister(owner, r);
        int value = inRegister(owner, s);
        if (key == NONE || value == NONE) {
            return NO;
        }
        return pairs.made >= PAIRS ? FULL : pairs.add(key, value);
    }

    public int value(int owner, int r, int pair) {
        if (!isRegister(owner, r) || !pairs.isPair(pair)) {
            return BAD;
        }
        int read = pairs.valueOf(pair);
        noteWeakRead(read);
        return holders.hold(registerAt(owner, r), read);
    }

    public int wish(int owner, int r) {
        if (!isRegister(owner, r)) {
            return BAD;
        }
        if (holders.wishes == 0) {
            return NONE;
        }
        return holders.hold(registerAt(owner, r), holders.takeFirstWish());
    }

    private static boolean isRegister(int owner, int r) {
        return owner >= 0 && owner < OWNERS && r >= 0 && r < REGISTERS;
    }

    private static boolean isSlot(int k) {
        return k >= 0 && k < SLOTS;
    }

    private static boolean isWeakHolder(int k) {
        return k >= 0 && k < WEAK_HOLDERS;
    }

    private static int registerAt(int owner, int r) {
        return owner * REGISTERS + r;
    }

    private int inRegister(int owner, int r) {
        return holders.heldAt(registerAt(owner, r));
    }

    private void noteWeakRead(int thing) {
        if (manner == NOTE_OLD || manner == HALVES) {
            note(thing);
        }
    }

    private void note(int thing) {
        if (underWay == MARKING && fault != NOTES_MISSING) {
            shade(thing);
        }
    }

    // ---- the sweeper

    public int begin() {
        if (underWay != NOTHING) {
            return NO;
        }
        startRound();
        if (manner != ALL_AT_ONCE) {
            return things.countGray();
        }
        int before = things.countNotFreed();
        takeSteps(STEPS_OF_ANY_ROUND);
        return before - things.countNotFreed();
    }

    public int sweep(int n) {
        if (n < 1 || n > MOST_STEPS) {
            return BAD;
        }
        return takeSteps(n);
    }

    public int under() {
        return underWay;
    }

    private void startRound() {
        underWay = MARKING;
        steps = 0;
        shaded = 0;
        things.whitenAll();
        if (manner == HALVES) {
            cells.changeHalves();
        }
        shadeHeld();
    }

    private int takeSteps(int most) {
        int done = 0;
        while (done < most && underWay != NOTHING) {
            if (underWay == MARKING) {
                markStep();
            } else {
                sweepStep();
            }
            done++;
            steps++;
        }
        return done;
    }

    private void markStep() {
        int gray = things.leastGray();
        if (gray != NONE) {
            shadeFieldsOf(gray);
            things.paint(gray, BLACK);
            return;
        }
        int before = shaded;
        if (manner == NOTE_NEW) {
            shadeHeld();
        }
        if (shaded == before) {
            shadeValues();
        }
        if (shaded == before) {
            grantWishes();
        }
        if (shaded == before) {
            endMarking();
        }
    }

    private void shadeFieldsOf(int thing) {
        for (int i = 0; i < FIELDS; i++) {
            shade(things.inField(thing, i));
        }
    }

    private void shadeHeld() {
        for (int at = 0; at < FIRST_WISH + holders.wishes; at++) {
            shade(holders.heldAt(at));
        }
    }

    private void shadeValues() {
        for (int pair = 0; pair < pairs.made; pair++) {
            int key = pairs.keyOf(pair);
            if (key != NONE && !things.isWhite(key)) {
                shade(pairs.valueOf(pair));
            }
        }
    }

    private void grantWishes() {
        for (int thing = 0; thing < things.made; thing++) {
            if (things.hasWish(thing) && things.isWhite(thing) && !things.isFreed(thing)) {
                things.endWish(thing);
                holders.addWish(thing);
                shade(thing);
            }
        }
    }

    private void shade(int thing) {
        if (!things.isWhite(thing) || things.isFreed(thing)) {
            return;
        }
        things.paint(thing, GRAY);
        shaded++;
        if (manner == HALVES) {
            cells.assign(things.placeOf(thing), things.sizeOf(thing), NONE);
            things.moveTo(thing, cells.behind);
            cells.takeBehind(things.sizeOf(thing), thing);
            moved++;
        }
    }

    private void endMarking() {
        for (int k = 0; k < WEAK_HOLDERS; k++) {
            if (things.isWhite(holders.namedBy(k))) {
                holders.name(k, NONE);
            }
        }
        for (int pair = 0; pair < pairs.made; pair++) {
            if (things.isWhite(pairs.keyOf(pair))) {
                pairs.end(pair);
            }
        }
        underWay = SWEEPING;
        nextToSweep = 0;
        if (manner == HALVES) {
            for (int thing = 0; thing < things.made; thing++) {
                freeIfWhite(thing);
            }
            endRound();
        }
    }

    private void sweepStep() {
        int thing = things.nextNotFreed(nextToSweep);
        if (thing == NONE) {
            endRound();
            return;
        }
        freeIfWhite(thing);
        nextToSweep = thing + 1;
    }

    private void freeIfWhite(int thing) {
        if (things.isWhite(thing) && !things.isFreed(thing)) {
            cells.assign(things.placeOf(thing), things.sizeOf(thing), NONE);
            things.free(thing);
        }
    }

    private void endRound() {
        underWay = NOTHING;
        rounds++;
    }

    // ---- what there is

    public int about(int thing, int what) {
        if (!things.isThing(thing)) {
            return BAD;
        }
        switch (what) {
            case 0: return things.fieldsOf(thing);
            case 1: return things.placeOf(thing);
            case 2: return things.colourOf(thing);
            case 3: return things.isFreed(thing) ? 1 : 0;
            case 4: return isReached(thing) ? 1 : 0;
            case 5: return things.hasWish(thing) ? 1 : 0;
            case 6: return things.movesOf(thing);
            default: return BAD;
        }
    }

    public int field(int thing, int i) {
        return things.isThing(thing) ? things.inField(thing, i) : BAD;
    }

    public int holder(int k) {
        if (k < 0) {
            return BAD;
        }
        if (k < WEAK_FROM) {
            return holders.heldAt(k);
        }
        if (k < PAIRS_FROM) {
            return holders.namedBy(k - WEAK_FROM);
        }
        return k < WISHES_FROM ? pairs.keyOf(k - PAIRS_FROM) : holders.wishAt(k - WISHES_FROM);
    }

    public int cell(int k) {
        return k < 0 || k >= CELLS ? BAD : cells.thingAt(k);
    }

    public int count(int what) {
        switch (what) {
            case 0: return things.made;
            case 1: return things.countNotFreed();
            case 2:
            case 3:
            case 4: return countByReach(what);
            case 5: return manner == HALVES ? cells.leftBehind() : cells.countFree();
            case 6: return manner == HALVES ? cells.leftBehind() : cells.longestFree();
            case 7: return rounds;
            case 8: return steps;
            case 9: return shaded;
            case 10: return moved;
            case 11: return holders.wishes;
            case 12: return pairs.countNotDropped();
            default: return BAD;
        }
    }

    /** 2: how many are reached, 3: lost, 4: neither freed nor reached. */
    private int countByReach(int what) {
        reach.find(things, holders, pairs);
        int count = 0;
        for (int thing = 0; thing < things.made; thing++) {
            boolean reached = reach.has(thing);
            boolean freed = things.isFreed(thing);
            boolean counts = what == 2 ? reached : what == 3 ? reached && freed : !reached && !freed;
            if (counts) {
                count++;
            }
        }
        return count;
    }

    public int lost() {
        reach.find(things, holders, pairs);
        for (int thing = 0; thing < things.made; thing++) {
            if (reach.has(thing) && things.isFreed(thing)) {
                return thing;
            }
        }
        return NONE;
    }

    private boolean isReached(int thing) {
        reach.find(things, holders, pairs);
        return reach.has(thing);
    }

    public long digest() {
        long h = 3;
        for (int thing = 0; thing < things.made; thing++) {
            h = 31 * h + things.placeOf(thing);
            h = 31 * h + things.colourOf(thing);
            h = 31 * h + (things.isFreed(thing) ? 1 : 0);
            for (int i = 0; i < things.fieldsOf(thing); i++) {
                h = 31 * h + things.inField(thing, i);
            }
        }
        for (int k = 0; k < WISHES_FROM; k++) {
            h = 31 * h + holder(k);
        }
        return 31 * h + underWay;
    }

    /** The things by number. What is asked of a number that is no thing's is answered as of nothing. */
    private static final class Things {
        private int made;
        private final int[] sizes = new int[THINGS];
        private final int[] places = new int[THINGS];
        private final int[] colours = new int[THINGS];
        private final int[] moves = new int[THINGS];
        private final boolean[] freed = new boolean[THINGS];
        private final boolean[] wishing = new boolean[THINGS];
        private final int[] held = new int[THINGS * FIELDS];

        /** The new thing's number, or NONE if there is no room for one. */
        int add(int n, boolean wish, int colour, int place) {
            if (made < 0 || made >= THINGS) {
                return NONE;
            }
            int thing = made;
            sizes[thing] = n + 1;
            places[thing] = place;
            colours[thing] = colour;
            moves[thing] = 0;
            freed[thing] = false;
            wishing[thing] = wish;
            for (int i = 0; i < FIELDS; i++) {
                held[thing * FIELDS + i] = NONE;
            }
            made++;
            return thing;
        }

        boolean isThing(int thing) {
            return thing >= 0 && thing < made && thing < THINGS;
        }

        int sizeOf(int thing) {
            return isThing(thing) ? sizes[thing] : 0;
        }

        int fieldsOf(int thing) {
            return isThing(thing) ? sizes[thing] - 1 : 0;
        }

        int placeOf(int thing) {
            return isThing(thing) ? places[thing] : NONE;
        }

        int colourOf(int thing) {
            return isThing(thing) ? colours[thing] : NONE;
        }

        int movesOf(int thing) {
            return isThing(thing) ? moves[thing] : 0;
        }

        boolean isWhite(int thing) {
            return isThing(thing) && colours[thing] == WHITE;
        }

        boolean isFreed(int thing) {
            return isThing(thing) && freed[thing];
        }

        boolean hasWish(int thing) {
            return isThing(thing) && wishing[thing];
        }

        boolean hasField(int thing, int i) {
            return isThing(thing) && i >= 0 && i < FIELDS && i < sizes[thing] - 1;
        }

        int inField(int thing, int i) {
            return hasField(thing, i) ? held[thing * FIELDS + i] : NONE;
        }

        void setField(int thing, int i, int written) {
            if (hasField(thing, i)) {
                held[thing * FIELDS + i] = written;
            }
        }

        void paint(int thing, int colour) {
            if (isThing(thing)) {
                colours[thing] = colour;
            }
        }

        void moveTo(int thing, int place) {
            if (isThing(thing)) {
                places[thing] = place;
                moves[thing]++;
            }
        }

        void free(int thing) {
            if (isThing(thing)) {
                freed[thing] = true;
                places[thing] = NONE;
            }
        }

        void endWish(int thing) {
            if (isThing(thing)) {
                wishing[thing] = false;
            }
        }

        void whitenAll() {
            for (int thing = 0; thing < made; thing++) {
                if (!isFreed(thing)) {
                    paint(thing, WHITE);
                }
            }
        }

        int leastGray() {
            for (int thing = 0; thing < made; thing++) {
                if (colourOf(thing) == GRAY) {
                    return thing;
                }
            }
            return NONE;
        }

        int nextNotFreed(int from) {
            for (int thing = from; thing < made; thing++) {
                if (!isFreed(thing)) {
                    return thing;
                }
            }
            return NONE;
        }

        int countGray() {
            int count = 0;
            for (int thing = 0; thing < made; thing++) {
                if (colourOf(thing) == GRAY) {
                    count++;
                }
            }
            return count;
        }

        int countNotFreed() {
            int count = 0;
            for (int thing = 0; thing < made; thing++) {
                if (!isFreed(thing)) {
                    count++;
                }
            }
            return count;
        }

        int cellsOfWhite() {
            int count = 0;
            for (int thing = 0; thing < made; thing++) {
                if (isWhite(thing) && !isFreed(thing)) {
                    count += sizeOf(thing);
                }
            }
            return count;
        }
    }

    /** To which thing each cell belongs, and how far the half at hand is used. */
    private static final class Cells {
        private final int[] things = new int[CELLS];
        private int halfEnd;
        private int behind;

        void empty() {
            for (int k = 0; k < CELLS; k++) {
                things[k] = NONE;
            }
            behind = 0;
            halfEnd = HALF_CELLS;
        }

        void changeHalves() {
            behind = halfEnd == HALF_CELLS ? HALF_CELLS : 0;
            halfEnd = behind + HALF_CELLS;
        }

        int leftBehind() {
            return halfEnd - behind;
        }

        int thingAt(int k) {
            return k >= 0 && k < CELLS ? things[k] : NONE;
        }

        /** The cells belong to the thing, or with NONE to nothing. */
        void assign(int place, int size, int thing) {
            for (int k = place; k < place + size; k++) {
                if (k >= 0 && k < CELLS) {
                    things[k] = thing;
                }
            }
        }

        void takeBehind(int size, int thing) {
            assign(behind, size, thing);
            behind += size;
        }

        int leastPlace(int size) {
            int free = 0;
            for (int k = 0; k < CELLS; k++) {
                free = things[k] == NONE ? free + 1 : 0;
                if (free == size) {
                    return k + 1 - size;
                }
            }
            return NONE;
        }

        int countFree() {
            int count = 0;
            for (int k = 0; k < CELLS; k++) {
                if (things[k] == NONE) {
                    count++;
                }
            }
            return count;
        }

        int longestFree() {
            int longest = 0;
            int free = 0;
            for (int k = 0; k < CELLS; k++) {
                free = things[k] == NONE ? free + 1 : 0;
                longest = Math.max(longest, free);
            }
            return longest;
        }
    }

    /** What holds things, in the order in which it is shaded, and the weak holders, which do not hold. */
    private static final class Holders {
        private final int[] held = new int[FIRST_WISH + THINGS];
        private final int[] named = new int[WEAK_HOLDERS];
        private int wishes;

        void empty() {
            for (int at = 0; at < FIRST_WISH; at++) {
                held[at] = NONE;
            }
            for (int k = 0; k < WEAK_HOLDERS; k++) {
                named[k] = NONE;
            }
            wishes = 0;
        }

        int heldAt(int at) {
            return at >= 0 && at < FIRST_WISH + wishes && at < held.length ? held[at] : NONE;
        }

        /** Answers the thing that is held now. */
        int hold(int at, int thing) {
            if (at >= 0 && at < FIRST_WISH) {
                held[at] = thing;
            }
            return thing;
        }

        int namedBy(int k) {
            return isWeakHolder(k) ? named[k] : NONE;
        }

        void name(int k, int thing) {
            if (isWeakHolder(k)) {
                named[k] = thing;
            }
        }

        int wishAt(int k) {
            return k >= 0 && k < wishes ? heldAt(FIRST_WISH + k) : NONE;
        }

        void addWish(int thing) {
            if (wishes >= 0 && wishes < THINGS) {
                held[FIRST_WISH + wishes] = thing;
                wishes++;
            }
        }

        int takeFirstWish() {
            int first = heldAt(FIRST_WISH);
            for (int at = FIRST_WISH; at + 1 < FIRST_WISH + wishes && at + 1 < held.length; at++) {
                held[at] = held[at + 1];
            }
            if (wishes > 0) {
                wishes--;
            }
            return first;
        }
    }

    /** The keyed pairs by number; a dropped one has nothing as its key and its value. */
    private static final class Pairs {
        private int made;
        private final int[] keys = new int[PAIRS];
        private final int[] values = new int[PAIRS];

        boolean isPair(int pair) {
            return pair >= 0 && pair < made && pair < PAIRS;
        }

        int add(int key, int value) {
            if (made < 0 || made >= PAIRS) {
                return FULL;
            }
            keys[made] = key;
            values[made] = value;
            made++;
            return made - 1;
        }

        void end(int pair) {
            if (isPair(pair)) {
                keys[pair] = NONE;
                values[pair] = NONE;
            }
        }

        int keyOf(int pair) {
            return isPair(pair) ? keys[pair] : NONE;
        }

        int valueOf(int pair) {
            return isPair(pair) ? values[pair] : NONE;
        }

        int countNotDropped() {
            int count = 0;
            for (int pair = 0; pair < made; pair++) {
                if (keyOf(pair) != NONE) {
                    count++;
                }
            }
            return count;
        }
    }

    /** Which things are reached, as they were found last. */
    private static final class Reach {
        private final boolean[] found = new boolean[THINGS];
        private final int[] order = new int[THINGS];
        private int count;

        boolean has(int thing) {
            return thing >= 0 && thing < THINGS && found[thing];
        }

        void find(Things things, Holders holders, Pairs pairs) {
            forget();
            for (int at = 0; at < FIRST_WISH + holders.wishes; at++) {
                add(holders.heldAt(at));
            }
            for (int next = 0; next < THINGS; next++) {
                if (next >= count) {
                    addValues(pairs);
                }
                if (next >= count) {
                    return;
                }
                addFields(things, order[next]);
            }
        }

        private void forget() {
            for (int thing = 0; thing < THINGS; thing++) {
                found[thing] = false;
            }
            count = 0;
        }

        private void add(int thing) {
            if (thing < 0 || thing >= THINGS || found[thing] || count >= THINGS) {
                return;
            }
            found[thing] = true;
            order[count] = thing;
            count++;
        }

        private void addFields(Things things, int thing) {
            if (things.isFreed(thing)) {
                return;
            }
            for (int i = 0; i < FIELDS; i++) {
                add(things.inField(thing, i));
            }
        }

        private void addValues(Pairs pairs) {
            for (int pair = 0; pair < pairs.made; pair++) {
                if (has(pairs.keyOf(pair))) {
                    add(pairs.valueOf(pair));
                }
            }
        }
    }
}
