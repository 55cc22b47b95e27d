import java.util.Map;
import java.util.TreeMap;

/** Long walks of mixed calls, each answer beside the plain attic's; the same walks at every run. */
public final class WalksTest {
    private static final Checks CHECKS = new Checks();
    private static final int WALKS = 3600, ACTS = 220, PAIRING = 55;

    /** How often an act was answered with a refusal, and how often what was lost was told. */
    private static final Map<String, Integer> SEEN = new TreeMap<>();

    private final AtticSweep attic = new AtticSweep();
    private final PlainAttic plain = new PlainAttic();
    private final String name;
    private final int greed;
    private final int haste;
    private final int favour;
    private long chance;
    private String call = "";

    private WalksTest(int walk) {
        name = "walk " + walk;
        chance = 7919L * walk + 1;
        // some walks make much and sweep little, others the other way round
        greed = 10 + 10 * (walk / 12 % 4);
        haste = 1 + walk / 48 % 5 * 3;
        favour = walk / 240 % 3;
    }

    public static void main(String[] args) {
        for (int walk = 0; walk < WALKS; walk++) {
            new WalksTest(walk).walk(walk % 4, walk / 4 % 3);
        }
        for (int manner = 0; manner < 4; manner++) {
            seen("make FULL in manner " + manner);
            seen("pair FULL in manner " + manner);
            seen("begin NO in manner " + (manner == 0 ? 1 : manner));
            seen("a wish in manner " + manner);
            seen("a dropped pair in manner " + manner);
        }
        seen("make FULL while marking in manner 3");
        for (int fault = 1; fault < 3; fault++) {
            for (int manner = 1; manner < 4; manner++) {
                // no walk happens on the one left out; PromisesTest has it
                if (manner != 2 || fault != 1) {
                    seen("lost in manner " + manner + " with fault " + fault);
                }
            }
        }
        seen("get LOST");
        seen("put LOST");
        CHECKS.finish();
    }

    private static void seen(String what) {
        CHECKS.holds("some walk meets: " + what, SEEN.getOrDefault(what, 0) > 0);
    }

    private void walk(int manner, int fault) {
        due("attic", attic.attic(manner, fault), plain.attic(manner, fault));
        for (int act = 0; act < ACTS; act++) {
            if (act == ACTS / 2 && chance % 3 == 0) {
                int next = upTo(4);
                due("attic anew", attic.attic(next, fault), plain.attic(next, fault));
            }
            act();
            due("digest after " + call, attic.digest(), plain.digest());
        }
        for (int what = 0; what < 13; what++) {
            due("count " + what, attic.count(what), plain.count(what));
        }
        lost();
    }

    private void lost() {
        int lost = attic.lost();
        due("lost", lost, plain.lost());
        if (plain.fault == 0) {
            due("lost without a fault", lost, AtticSweep.NONE);
        }
        meetIf(lost >= 0, "lost in manner " + plain.manner + " with fault " + plain.fault);
    }

    private void act() {
        int kind = upTo(100 + greed);
        if (kind < 62) {
            holdingAct(favoured(kind));
        } else if (kind < 80) {
            question();
        } else if (kind < 84) {
            int answer = attic.begin();
            due("begin", answer, plain.begin());
            meetIf(answer == AtticSweep.NO, "begin NO in manner " + plain.manner);
        } else if (kind < 100) {
            int n = upTo(12) == 0 ? odd() : 1 + upTo(haste);
            due("sweep " + n, attic.sweep(n), plain.sweep(n));
        } else {
            make();
        }
    }

    /** Some walks dig in fields, and some pair, more than others do. */
    private int favoured(int kind) {
        if (favour == 1) {
            return kind < 36 ? kind : kind % 36;
        }
        return favour == 2 && kind >= 42 && kind < 51 ? PAIRING : kind;
    }

    private void make() {
        int owner = owner();
        int register = register();
        int n = upTo(40) == 0 ? odd() : upTo(7);
        boolean wish = upTo(4) == 0;
        int answer = attic.make(owner, register, n, wish);
        due("make " + owner + " " + register + " " + n + " " + wish, answer, plain.make(owner, register, n, wish));
        meetIf(answer == AtticSweep.FULL, "make FULL in manner " + plain.manner);
        meetIf(answer == AtticSweep.FULL && plain.under == 1, "make FULL while marking in manner " + plain.manner);
    }

    private void holdingAct(int kind) {
        int owner = owner();
        int r = register();
        int s = register();
        int i = upTo(20) == 0 ? odd() : upTo(4);
        String with = " " + owner + " " + r + " " + s + " " + i;
        int answer;
        if (kind < 4) {
            due("move" + with, attic.move(owner, r, s), plain.move(owner, r, s));
        } else if (kind < 14) {
            answer = attic.get(owner, r, s, i);
            due("get" + with, answer, plain.get(owner, r, s, i));
            meetIf(answer == AtticSweep.LOST, "get LOST");
        } else if (kind < 30) {
            answer = attic.put(owner, r, i, s);
            due("put" + with, answer, plain.put(owner, r, i, s));
            meetIf(answer == AtticSweep.LOST, "put LOST");
        } else if (kind < 36) {
            due("drop" + with, attic.drop(owner, r), plain.drop(owner, r));
        } else if (kind < 39) {
            due("store" + with, attic.store(i, owner, r), plain.store(i, owner, r));
        } else if (kind < 42) {
            due("load" + with, attic.load(owner, r, i), plain.load(owner, r, i));
        } else {
            rarerAct(kind, owner, r, s);
        }
    }

    private void rarerAct(int kind, int owner, int r, int s) {
        int k = upTo(12) == 0 ? odd() : upTo(6);
        String with = " " + owner + " " + r + " " + s + " " + k;
        int answer;
        if (kind < 44) {
            due("same" + with, attic.same(owner, r, k, s), plain.same(owner, r, k, s));
        } else if (kind < 47) {
            due("weak" + with, attic.weak(k, owner, r), plain.weak(k, owner, r));
        } else if (kind < 51) {
            due("strong" + with, attic.strong(owner, r, k), plain.strong(owner, r, k));
        } else if (kind < 56) {
            answer = attic.pair(owner, r, s);
            due("pair" + with, answer, plain.pair(owner, r, s));
            meetIf(answer == AtticSweep.FULL, "pair FULL in manner " + plain.manner);
        } else if (kind < 59) {
            answer = attic.value(owner, r, k);
            due("value" + with, answer, plain.value(owner, r, k));
            meetIf(answer == AtticSweep.NONE, "a dropped pair in manner " + plain.manner);
        } else {
            answer = attic.wish(owner, r);
            due("wish" + with, answer, plain.wish(owner, r));
            meetIf(answer >= 0, "a wish in manner " + plain.manner);
        }
    }

    private void question() {
        int thing = upTo(10) == 0 ? odd() : upTo(1 + plain.things.size());
        int what = upTo(14) - upTo(2);
        int i = upTo(8) - 1;
        int k = upTo(204) - 2;
        switch (upTo(7)) {
            case 0: due("about " + thing + " " + what, attic.about(thing, what), plain.about(thing, what)); break;
            case 1: due("field " + thing + " " + i, attic.field(thing, i), plain.field(thing, i)); break;
            case 2: due("holder " + k / 4, attic.holder(k / 4), plain.holder(k / 4)); break;
            case 3: due("cell " + k, attic.cell(k), plain.cell(k)); break;
            case 4: due("count " + what, attic.count(what), plain.count(what)); break;
            case 5: lost(); break;
            default: due("under", attic.under(), plain.under()); break;
        }
    }

    private int owner() {
        return upTo(60) == 0 ? odd() : upTo(3);
    }

    private int register() {
        return upTo(60) == 0 ? odd() : upTo(4);
    }

    private int odd() {
        int[] numbers = {-1, 3, 4, 5, 6, 7, 8, 120, 400, 401, Integer.MAX_VALUE, Integer.MIN_VALUE};
        return numbers[upTo(numbers.length)];
    }

    /** A number from 0 up to the end, without it, by a fixed rule. */
    private int upTo(int end) {
        chance = chance * 6364136223846793005L + 1442695040888963407L;
        return (int) ((chance >>> 33) % end);
    }

    private void due(String what, long got, long want) {
        call = what;
        CHECKS.due(name + ": " + what, got, want);
    }

    private static void meetIf(boolean so, String what) {
        if (so) {
            meet(what);
        }
    }

    private static void meet(String what) {
        SEEN.merge(what, 1, Integer::sum);
    }
}
