import java.util.List;

/**
 * Each number of each call: the least and the greatest are taken; one below, one above and the farthest off are BAD,
 * whatever the others are, and change nothing.
 */
public final class BoundsTest extends Scene {
    private interface Act {
        int of(int... n);
    }

    /** A call, and the least and the greatest of each of its numbers. */
    private record Call(String name, Act act, int... ends) {
        int numbers() {
            return ends.length / 2;
        }

        int least(int number) {
            return ends[2 * number];
        }

        int greatest(int number) {
            return ends[2 * number + 1];
        }
    }

    /** As things stand in busy(): 12 things, two pairs. What a field's number may be is told in HoldersTest. */
    private static final List<Call> CALLS = List.of(
        new Call("attic", n -> x.attic(n[0], n[1]), 0, 3, 0, 2),
        new Call("make", n -> x.make(n[0], n[1], n[2], false), 0, 2, 0, 3, 0, 6),
        new Call("make, wishing", n -> x.make(n[0], n[1], n[2], true), 0, 2, 0, 3, 0, 6),
        new Call("move", n -> x.move(n[0], n[1], n[2]), 0, 2, 0, 3, 0, 3),
        new Call("get", n -> x.get(n[0], n[1], n[2], 0), 0, 2, 0, 3, 0, 3),
        new Call("get, no such field", n -> x.get(n[0], n[1], n[2], -1), 0, 2, 0, 3, 0, 3),
        new Call("put", n -> x.put(n[0], n[1], 0, n[2]), 0, 2, 0, 3, 0, 3),
        new Call("put, no such field", n -> x.put(n[0], n[1], 7, n[2]), 0, 2, 0, 3, 0, 3),
        new Call("drop", n -> x.drop(n[0], n[1]), 0, 2, 0, 3),
        new Call("store", n -> x.store(n[0], n[1], n[2]), 0, 3, 0, 2, 0, 3),
        new Call("load", n -> x.load(n[0], n[1], n[2]), 0, 2, 0, 3, 0, 3),
        new Call("same", n -> x.same(n[0], n[1], n[2], n[3]), 0, 2, 0, 3, 0, 2, 0, 3),
        new Call("weak", n -> x.weak(n[0], n[1], n[2]), 0, 5, 0, 2, 0, 3),
        new Call("strong", n -> x.strong(n[0], n[1], n[2]), 0, 2, 0, 3, 0, 5),
        new Call("pair", n -> x.pair(n[0], n[1], n[2]), 0, 2, 0, 3, 0, 3),
        new Call("value", n -> x.value(n[0], n[1], n[2]), 0, 2, 0, 3, 0, 1),
        new Call("wish", n -> x.wish(n[0], n[1]), 0, 2, 0, 3),
        new Call("sweep", n -> x.sweep(n[0]), 1, 400),
        new Call("about", n -> x.about(n[0], n[1]), 0, 11, 0, 6),
        new Call("field", n -> x.field(n[0], 0), 0, 11),
        new Call("field, none such", n -> x.field(n[0], -1), 0, 11),
        new Call("holder", n -> x.holder(n[0]), 0, MOST),
        new Call("cell", n -> x.cell(n[0]), 0, 199),
        new Call("count", n -> x.count(n[0]), 0, 12));

    public static void main(String[] args) {
        for (int manner = 0; manner < 4; manner++) {
            for (int under = 0; under < (manner == 0 ? 1 : manner == 3 ? 2 : 3); under++) {
                for (Call call : CALLS) {
                    bounds(call, manner, under);
                }
            }
        }
        finish();
    }

    private static void bounds(Call call, int manner, int under) {
        busy(manner, under);
        List<Long> told = Told.by(x);
        List<Long> goingOn = Told.goingOn(x);
        for (int number = 0; number < call.numbers(); number++) {
            int at = number;
            String name = call.name + " in manner " + manner + ", under " + under + ", number " + number;
            test(name + ": its least, its greatest", () -> taken(call, at, manner, under));
            for (int wrong : wrong(call, number)) {
                test(name + " is " + wrong, () -> {
                    for (int others = 0; others < 3; others++) {
                        busy(manner, under);
                        due("answer", call.act.of(numbers(call, at, wrong, others)), BAD);
                        due("nothing is changed", Told.by(x).equals(told) ? 1 : 0, 1);
                        due("nor goes on otherwise", Told.goingOn(x).equals(goingOn) ? 1 : 0, 1);
                    }
                });
            }
        }
    }

    private static void taken(Call call, int number, int manner, int under) {
        for (int others = 0; others < 2; others++) {
            for (int right : new int[] {call.least(number), call.greatest(number)}) {
                busy(manner, under);
                due("BAD with " + right, call.act.of(numbers(call, number, right, others)) == BAD ? 1 : 0, 0);
            }
        }
    }

    /** The call's numbers: one of them as told, the others their least (0), their greatest (1) or one above (2). */
    private static int[] numbers(Call call, int number, int value, int others) {
        int[] all = new int[call.numbers()];
        for (int k = 0; k < all.length; k++) {
            all[k] = others == 0 ? call.least(k) : call.greatest(k) + (others == 2 ? 1 : 0);
        }
        all[number] = value;
        return all;
    }

    private static int[] wrong(Call call, int number) {
        if (call.greatest(number) == MOST) {
            return new int[] {call.least(number) - 1, LEAST};
        }
        return new int[] {call.least(number) - 1, call.greatest(number) + 1, MOST, LEAST};
    }

    /** All registers, slots and weak holders are in use, two pairs are there; the round is as far as is told. */
    private static void busy(int manner, int under) {
        x = new AtticSweep();
        x.attic(manner, 0);
        for (int k = 0; k < 12; k++) {
            x.make(k / 4, k % 4, 1, k % 5 == 0);
        }
        for (int k = 0; k < 4; k++) {
            x.store(k, 0, k);
        }
        for (int k = 0; k < 6; k++) {
            x.weak(k, k % 3, k % 4);
        }
        x.pair(0, 0, 1);
        x.pair(1, 1, 2);
        if (under > 0) {
            x.begin();
            x.sweep(under == 1 ? 2 : 15);
        }
        due("under", x.under(), under);
    }
}
