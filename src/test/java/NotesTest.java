/** What is noted in each manner, when it is not, and what planted faults make of it. */
public final class NotesTest extends Scene {
    public static void main(String[] args) {
        test("NOTES in MANNER 1: what a FIELD held as something else (or nothing, or the same) is put there",
            NotesTest::whatAFieldHeld);
        test("NOTES in MANNER 2: what is put there", NotesTest::whatIsPutThere);
        test("NOTES in MANNERS 1 and 3: what is read from a WEAK HOLDER, as a VALUE", NotesTest::whatIsReadWeakly);
        test("NOTES in MANNER 3: what is read from a FIELD", NotesTest::whatIsReadFromAField);
        test("NOTES: of nothing", NotesTest::nothingToNote);
        test("NOTES: of a FREED one", NotesTest::freedToNote);
        test("NOTES: of what is GRAY or BLACK", NotesTest::markedToNote);
        test("NOTES: no other act", NotesTest::noOtherAct);
        test("NOTES, while MARKING is under way: refused calls", NotesTest::refusedCalls);
        test("NOTES, while MARKING is under way: its last step", NotesTest::lastMoment);
        test("NOTES, while MARKING is under way: not while SWEEPING", NotesTest::notWhileSweeping);
        test("NOTES, while MARKING is under way: not before it", NotesTest::notBefore);
        test("FAULT 1: NOTES are not done", NotesTest::noNotes);
        test("FAULT 1: all else is done", NotesTest::allElseIsDone);
        test("FAULT 2: a new THING is WHITE also while a ROUND is under way", NotesTest::whiteNewOnes);
        test("FAULT 2: NOTES are done", NotesTest::notesWithFaultTwo);
        test("MANNER 0: FAULTS make no difference", NotesTest::faultsInMannerZero);
        test("A THING that is FREED and REACHED is LOST", NotesTest::lost);
        finish();
    }

    /** Field 0 of thing 0 holds thing 1; a weak holder names thing 2, which is the value of thing 0. Only 0 is held. */
    private static void hidden(int manner, int fault) {
        fresh(manner, fault);
        things(2, 0, 0);
        x.put(0, 0, 0, 1);
        x.weak(0, 0, 2);
        x.pair(0, 0, 2);
        dropAll(1, 2);
    }

    private static void marking(int manner, int fault) {
        hidden(manner, fault);
        due("one is gray", x.begin(), 1);
        coloursAre("as it begins", GRAY, WHITE, WHITE);
    }

    private static int gray(boolean so) {
        return so ? GRAY : WHITE;
    }

    private static void whatAFieldHeld() {
        for (int manner = 1; manner < 4; manner++) {
            marking(manner, 0);
            x.put(0, 0, 0, 0);
            coloursAre("something else", GRAY, gray(manner == 1), WHITE);
            marking(manner, 0);
            x.put(0, 0, 0, 3);
            coloursAre("nothing", GRAY, gray(manner == 1), WHITE);
            if (manner == 1) {
                due("shaded", x.count(9), 2);
            }
        }
        marking(1, 0);
        x.get(0, 1, 0, 0);
        x.put(0, 0, 0, 1);
        coloursAre("the same", GRAY, GRAY, WHITE);
    }

    private static void whatIsPutThere() {
        for (int manner = 1; manner < 3; manner++) {
            marking(manner, 0);
            x.get(0, 1, 0, 0);
            x.put(0, 0, 1, 1);
            coloursAre("into a field that held nothing", GRAY, gray(manner == 2), WHITE);
        }
        for (int manner = 1; manner < 4; manner++) {
            marking(manner, 2);
            x.make(1, 0, 0, false);
            x.move(1, 1, 0);
            x.store(0, 1, 0);
            x.load(0, 1, 0);
            due("a white new one", x.about(3, 2), WHITE);
            x.put(0, 0, 1, 1);
            due("put there", x.about(3, 2), gray(manner == 2));
        }
    }

    private static void whatIsReadWeakly() {
        for (int manner = 1; manner < 4; manner++) {
            marking(manner, 0);
            due("strong", x.strong(0, 1, 0), 2);
            coloursAre("read from a weak holder", GRAY, WHITE, gray(manner != 2));
            due("moved", x.about(2, 6), manner == 3 ? 1 : 0);
            marking(manner, 0);
            due("value", x.value(0, 1, 0), 2);
            coloursAre("read as a value", GRAY, WHITE, gray(manner != 2));
            due("moved", x.about(2, 6), manner == 3 ? 1 : 0);
        }
    }

    private static void whatIsReadFromAField() {
        for (int manner = 1; manner < 4; manner++) {
            marking(manner, 0);
            due("get", x.get(0, 1, 0, 0), 1);
            coloursAre("read from a field", GRAY, gray(manner == 3), WHITE);
            due("place", x.about(1, 1), manner == 3 ? 103 : 3);
            due("read again", x.get(0, 0, 0, 0), 1);
            due("shaded", x.count(9), manner == 3 ? 2 : 1);
        }
    }

    private static void nothingToNote() {
        for (int manner = 1; manner < 4; manner++) {
            marking(manner, 0);
            due("nothing over nothing", x.put(0, 0, 1, 3), 1);
            due("nothing from a field", x.get(0, 1, 0, 1), NONE);
            due("nothing from a weak holder", x.strong(0, 1, 1), NONE);
            coloursAre("as they were", GRAY, WHITE, WHITE);
            due("shaded", x.count(9), 1);

            fresh(manner, 0);
            things(0, 0);
            x.pair(0, 0, 1);
            dropAll(0);
            round();
            x.make(0, 0, 0, false);
            x.begin();
            int shaded = x.count(9);
            due("nothing as the value of a dropped pair", x.value(0, 2, 0), NONE);
            due("shaded", x.count(9), shaded);
        }
    }

    private static void freedToNote() {
        for (int manner = 1; manner < 4; manner += 2) {
            fresh(manner, 2);
            things(2);
            x.begin();
            x.make(0, 1, 0, false);
            x.sweep(400);
            due("lost", x.lost(), 1);
            x.put(0, 0, 0, 1);
            x.weak(0, 0, 1);
            x.pair(0, 0, 1);
            x.begin();
            x.get(0, 2, 0, 0);
            x.strong(0, 2, 0);
            x.value(0, 2, 0);
            x.put(0, 0, 0, 3);
            coloursAre("the freed one is white still", GRAY, WHITE);
            due("it has no place", x.about(1, 1), NONE);
            due("shaded", x.count(9), 1);
        }
    }

    private static void markedToNote() {
        for (int manner = 1; manner < 4; manner++) {
            fresh(manner, 0);
            things(2, 0);
            x.put(0, 0, 0, 1);
            x.weak(0, 0, 1);
            x.pair(0, 0, 1);
            x.begin();
            for (int step = 0; step < 3; step++) {
                int[] colours = {x.about(0, 2), x.about(1, 2)};
                x.get(0, 2, 0, 0);
                x.strong(0, 2, 0);
                x.value(0, 2, 0);
                x.put(0, 0, 0, 1);
                x.put(0, 0, 1, 0);
                coloursAre("after " + step + " steps", colours);
                due("shaded", x.count(9), 2);
                x.sweep(step < 2 ? 1 : 400);
            }
            due("moved", x.count(10), manner == 3 ? 2 : 0);
        }
    }

    private static void noOtherAct() {
        for (int manner = 1; manner < 4; manner++) {
            marking(manner, 2);
            x.make(0, 1, 1, true);
            due("its place", x.about(3, 1), manner == 3 ? 103 : 5);
            x.move(0, 2, 1);
            x.store(0, 0, 1);
            x.load(1, 0, 0);
            x.same(0, 1, 1, 0);
            x.weak(1, 0, 1);
            x.pair(0, 1, 1);
            x.store(0, 0, 3);
            due("no wish to take", x.wish(0, 3), NONE);
            x.drop(0, 2);
            x.drop(1, 0);
            x.drop(0, 1);
            coloursAre("as they were", GRAY, WHITE, WHITE, WHITE);
            due("shaded", x.count(9), 1);
            due("not moved", x.about(3, 6), 0);
        }
    }

    private static void refusedCalls() {
        for (int manner = 1; manner < 4; manner++) {
            marking(manner, 0);
            due("get BAD", x.get(0, 4, 0, 0), BAD);
            due("get NO", x.get(0, 1, 0, 2), NO);
            due("put BAD", x.put(0, 0, 0, 4), BAD);
            due("put NO", x.put(0, 0, -1, 0), NO);
            due("strong BAD", x.strong(0, 4, 0), BAD);
            due("value BAD", x.value(0, 4, 0), BAD);
            due("begin NO", x.begin(), NO);
            coloursAre("as they were", GRAY, WHITE, WHITE);
            due("shaded", x.count(9), 1);
        }
    }

    private static void lastMoment() {
        for (int manner = 1; manner < 4; manner += 2) {
            fresh(manner, 0);
            things(0, 0);
            x.weak(0, 0, 1);
            dropAll(1);
            x.begin();
            x.sweep(1);
            due("the next step ends the marking", x.strong(0, 1, 0), 1);
            coloursAre("noted", BLACK, GRAY);
            x.sweep(400);
            due("kept", x.about(1, 3), 0);
            due("named still", x.holder(16), 1);
        }
    }

    private static void notWhileSweeping() {
        for (int manner = 1; manner < 3; manner++) {
            fresh(manner, 2);
            things(2);
            x.begin();
            x.sweep(2);
            due("sweeping", x.under(), 2);
            x.make(0, 1, 0, false);
            due("put there", x.put(0, 0, 0, 1), 1);
            x.weak(0, 0, 1);
            x.pair(0, 0, 1);
            due("strong", x.strong(0, 2, 0), 1);
            due("value", x.value(0, 2, 0), 1);
            due("get", x.get(0, 2, 0, 0), 1);
            due("put over it", x.put(0, 0, 0, 3), 1);
            coloursAre("no note", BLACK, WHITE);
            due("shaded", x.count(9), 1);
            x.sweep(400);
            due("it is freed", x.lost(), 1);
            due("it is named still", x.holder(16), 1);
            due("its pair is not dropped", x.value(0, 2, 0), 1);
        }
    }

    private static void notBefore() {
        for (int manner = 0; manner < 4; manner++) {
            hidden(manner, 0);
            x.strong(0, 1, 0);
            x.value(0, 1, 0);
            x.get(0, 1, 0, 0);
            x.put(0, 0, 1, 1);
            x.put(0, 0, 0, 3);
            coloursAre("before the first round", WHITE, WHITE, WHITE);
            due("shaded", x.count(9), 0);
            due("moved", x.count(10), 0);
            round();
            int shaded = x.count(9);
            x.make(0, 1, 0, false);
            x.put(0, 0, 0, 1);
            x.weak(0, 0, 1);
            x.pair(0, 0, 1);
            x.strong(0, 2, 0);
            x.value(0, 2, 1);
            x.get(0, 2, 0, 0);
            x.put(0, 0, 0, 3);
            due("a white one, when it is over", x.about(3, 2), WHITE);
            due("shaded", x.count(9), shaded);
        }
    }

    private static void noNotes() {
        for (int manner = 1; manner < 4; manner++) {
            marking(manner, 1);
            x.strong(0, 1, 0);
            x.value(0, 1, 0);
            x.get(0, 1, 0, 0);
            x.put(0, 0, 1, 1);
            x.put(0, 0, 0, 0);
            x.put(0, 0, 0, 3);
            coloursAre("no note", GRAY, WHITE, WHITE);
            due("shaded", x.count(9), 1);
        }
    }

    private static void allElseIsDone() {
        for (int manner = 0; manner < 4; manner++) {
            hidden(manner, 1);
            x.make(0, 1, 0, true);
            dropAll(1);
            round();
            due("field, value and wish are shaded", x.count(9), 4);
            due("none is freed", x.count(1), 4);
            due("none is lost", x.lost(), NONE);
            x.begin();
            x.make(0, 3, 0, false);
            due("a new one", x.about(4, 2), manner == 0 ? WHITE : BLACK);
        }
    }

    private static void whiteNewOnes() {
        for (int manner = 1; manner < 4; manner++) {
            fresh(manner, 2);
            things(0);
            due("before it, white", x.about(0, 2), WHITE);
            x.begin();
            x.make(0, 1, 0, false);
            coloursAre("marking", GRAY, WHITE);
            x.sweep(manner == 2 ? 4 : 2);
            due("marking is over", x.under(), manner == 3 ? 0 : 2);
            x.make(0, 2, 0, false);
            due("behind it, white", x.about(2, 2), WHITE);
            x.sweep(400);
            due("the first is lost but in manner 2", x.about(1, 3), manner == 2 ? 0 : 1);
            due("the other is lost but in manner 3", x.about(2, 3), manner == 3 ? 0 : 1);
        }
    }

    private static void notesWithFaultTwo() {
        for (int manner = 1; manner < 4; manner++) {
            marking(manner, 2);
            x.strong(0, 1, 0);
            due("read from a weak holder", x.about(2, 2), gray(manner != 2));
            x.get(0, 1, 0, 0);
            due("read from a field", x.about(1, 2), gray(manner == 3));
            x.put(0, 0, 0, 3);
            due("over it", x.about(1, 2), gray(manner != 2));
            x.put(0, 0, 0, 1);
            due("put there", x.about(1, 2), GRAY);
        }
    }

    private static void faultsInMannerZero() {
        for (int fault = 0; fault < 3; fault++) {
            hidden(0, fault);
            x.make(0, 1, 0, false);
            x.get(0, 2, 0, 0);
            x.put(0, 0, 0, 3);
            dropAll(1);
            due("freed", x.begin(), 1);
            x.make(0, 1, 0, false);
            coloursAre("when it is over", BLACK, BLACK, BLACK, WHITE, WHITE);
            due("lost", x.lost(), NONE);
        }
    }

    private static void lost() {
        for (int manner = 1; manner < 4; manner++) {
            fresh(manner, 2);
            x.begin();
            if (manner == 2) {
                // what is held would be shaded again as marking ends
                x.sweep(1);
            }
            for (int r = 0; r < 3; r++) {
                x.make(0, r, 0, false);
            }
            due("reached, but not freed", x.lost(), NONE);
            due("none is lost", x.count(3), 0);
            dropAll(1);
            x.sweep(400);
            due("all are freed", x.count(1), 0);
            due("the least", x.lost(), 0);
            due("freed, but not reached", x.count(3), 2);
            dropAll(0);
            due("the next", x.lost(), 2);
            dropAll(2);
            due("none is reached", x.lost(), NONE);
        }
    }
}
