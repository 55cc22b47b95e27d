/** What the tests of single calls share: an attic at hand, and what is due of it. */
abstract class Scene {
    static final int NONE = -1, BAD = -2, NO = -3, FULL = -4, LOST = -5;
    static final int WHITE = 0, GRAY = 1, BLACK = 2;
    static final int MOST = Integer.MAX_VALUE, LEAST = Integer.MIN_VALUE;

    static AtticSweep x;

    private static final Checks CHECKS = new Checks();
    private static String sentence = "";

    /** Runs one test; what it finds wrong is told with the words of the document that it stands for. */
    static void test(String words, Runnable body) {
        sentence = words + " | ";
        body.run();
        sentence = "";
    }

    static void due(String what, long got, long want) {
        CHECKS.due(sentence + what, got, want);
    }

    static void finish() {
        CHECKS.finish();
    }

    static void fresh(int manner, int fault) {
        x = new AtticSweep();
        due("attic(" + manner + ", " + fault + ")", x.attic(manner, fault), 0);
    }

    /** Makes things one after the other, each with so many fields, in the registers from (0, 0) on. */
    static void things(int... fields) {
        for (int thing = 0; thing < fields.length; thing++) {
            due("make thing " + thing, x.make(thing / 4, thing % 4, fields[thing], false), thing);
        }
    }

    /** The registers, numbered as holder numbers them, hold nothing then. */
    static void dropAll(int... registers) {
        for (int k : registers) {
            x.drop(k / 4, k % 4);
        }
    }

    /** A whole round, in any manner. */
    static void round() {
        x.begin();
        x.sweep(400);
        due("the round is over", x.under(), 0);
    }

    /** Register 1 of owner 1 holds thing 1, of one field, which the sweeper freed; nothing is under way. */
    static void lostInRegister() {
        fresh(1, 2);
        things(0);
        x.begin();
        due("a white one is made", x.make(1, 1, 1, false), 1);
        x.sweep(400);
        due("it is freed", x.about(1, 3), 1);
    }

    static void cellsAre(int from, int... want) {
        for (int k = 0; k < want.length; k++) {
            due("cell " + (from + k), x.cell(from + k), want[k]);
        }
    }

    static void placesAre(int... want) {
        for (int thing = 0; thing < want.length; thing++) {
            due("place of " + thing, x.about(thing, 1), want[thing]);
        }
    }

    static void coloursAre(String when, int... want) {
        for (int thing = 0; thing < want.length; thing++) {
            due(when + ", colour of " + thing, x.about(thing, 2), want[thing]);
        }
    }

    static void holdersAre(String when, int from, int... want) {
        for (int k = 0; k < want.length; k++) {
            due(when + ", holder " + (from + k), x.holder(from + k), want[k]);
        }
    }
}
