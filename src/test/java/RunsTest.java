/** Promises 14 to 16 and 18: runs. */
public final class RunsTest {
    private static final Class<?> INDEX = IndexOutOfBoundsException.class;
    private static final Class<?> ARGUMENT = IllegalArgumentException.class;
    private static final Class<?> STATE = IllegalStateException.class;

    public static void main(String[] args) {
        plain();
        refused();
        orderOfDrops();
        moves();
        loops();
        steps();
        borrows();
        nodes();
        held();
        panics();
        aborts();
        kept();
        latestStays();
        Due.end();
    }

    /** The RUN ends so, and tells this: for each one {sort, number, LINE}. */
    private static void runIs(DropflagMill x, int outcome, int[]... story) {
        Due.is("run()", x.run(), outcome);
        Due.is("ofRun(0)", x.ofRun(0), outcome);
        Due.is("ofRun(2)", x.ofRun(2), story.length);
        for (int k = 0; k < story.length && k < x.ofRun(2); k++) {
            for (int what = 0; what <= 2; what++) {
                Due.is("told(" + k + ", " + what + ")", x.told(k, what), story[k][what]);
            }
        }
        Due.fails(x, INDEX, "told behind the last one", () -> x.told(story.length, 0));
    }

    /** ofRun() of 3 to 8. */
    private static void countsAre(DropflagMill x, int... counts) {
        for (int what = 3; what <= 8; what++) {
            Due.is("ofRun(" + what + ")", x.ofRun(what), counts[what - 3]);
        }
    }

    private static void plain() {
        // 0 NUMBER, 1 BOX, 2 PAIR, 3 COUNTED
        DropflagMill x = Due.mill(new int[] {0, 1, 2, 5}, new int[][] {
            {0, 0, -7}, {0, 3, 10}, {0, 6, 99}, {0, 9, -5}, {5, 0, 0}, {5, 3, 0}, {5, 6, 0}, {5, 8, 0}, {5, 9, 0},
            {16, 0, 3}, {5, 0, 0}, {6, 3, 11}, {5, 3, 0}, {6, 9, 12}, {6, 7, 50}, {6, 0, 2}, {5, 0, 0}});
        runIs(x, 0, new int[][] {{0, -7, 4}, {0, 10, 5}, {0, 199, 6}, {0, 100, 7}, {0, -5, 8}, {0, -4, 10},
            {0, 11, 12}, {0, 2, 16}, {2, 12, 17}, {1, 50, 17}, {1, 100, 17}, {1, 11, 17}});
        countsAre(x, 3, 1, 3, 1, 0, -1);
        Due.is("ofRun(1)", x.ofRun(1), 17);
        Due.is("ofRun(9)", x.ofRun(9), 1);
        Due.is("meanRead()", x.meanRead(), 306.0 / 8);
        Due.fails(x, ARGUMENT, "ofRun(10)", () -> x.ofRun(10));
        Due.fails(x, ARGUMENT, "ofRun(-1)", () -> x.ofRun(-1));
        Due.fails(x, ARGUMENT, "told(0, 3)", () -> x.told(0, 3));
        Due.fails(x, ARGUMENT, "told(0, -1)", () -> x.told(0, -1));
        Due.fails(x, INDEX, "told(12, 3)", () -> x.told(12, 3));
        Due.fails(x, INDEX, "told(-1, 0)", () -> x.told(-1, 0));
        Due.is("run() again", x.run(), 0);
        Due.is("ofRun(9)", x.ofRun(9), 2);
        Due.is("ofRun(2)", x.ofRun(2), 12);
        // a mean that is not whole
        DropflagMill y = Due.mill(new int[] {0}, new int[][] {{0, 0, -1}, {5, 0, 0}, {5, 0, 0}, {16, 0, 1}, {5, 0, 0}});
        runIs(y, 0, new int[][] {{0, -1, 1}, {0, -1, 2}, {0, 0, 4}});
        Due.is("meanRead()", y.meanRead(), -2.0 / 3);
    }

    private static void refused() {
        DropflagMill x = Due.mill(new int[] {0}, new int[][] {{5, 0, 0}});
        Due.fails(x, STATE, "run() with a fault", () -> x.run());
        Due.is("ofRun(9)", x.ofRun(9), 0);
        x.put(0, 8, 0, 0);
        Due.fails(x, STATE, "run() of what is not whole", () -> x.run());
        x.put(0, 15, 0, 0);
        x.add(5, 0, 0);
        Due.is("a dead line has no fault", x.run(), 1);
    }

    private static void orderOfDrops() {
        // 0 PAIR, 1 BOX, 2 COUNTED, 3 NUMBER
        DropflagMill x = Due.mill(new int[] {2, 1, 5, 0}, new int[][] {
            {0, 0, 1}, {0, 0, 5}, {0, 3, 20}, {0, 3, 21}, {0, 6, 30}, {0, 6, 31}, {0, 3, 7}, {0, 9, 1}, {0, 9, 2},
            {7, 1, 0}, {7, 3, 0}});
        runIs(x, 0, new int[][] {{1, 1, 1}, {1, 2, 1}, {1, 20, 3}, {2, 30, 5}, {1, 21, 6}, {1, 5, 9}, {1, 7, 10},
            {2, 31, 11}, {1, 6, 11}});
        countsAre(x, 7, 2, 7, 2, 0, -1);
        x.put(9, 7, 0, 0);
        runIs(x, 0, new int[][] {{1, 1, 1}, {1, 2, 1}, {1, 20, 3}, {2, 30, 5}, {1, 21, 6}, {1, 5, 9}, {1, 6, 9},
            {1, 7, 10}, {2, 31, 11}});
    }

    private static void moves() {
        // 0 and 1 PAIR, 2 BOX, 3 and 4 COUNTED
        int[] kinds = {2, 2, 1, 5, 5};
        int[][] start = {{0, 0, 1}, {0, 3, 11}, {0, 6, 20}, {0, 9, 30}, {0, 12, 40}};
        DropflagMill x = Due.mill(kinds, start);
        x.add(1, 0, 0);
        x.add(1, 1, 1);
        x.add(1, 9, 9);
        x.add(1, 6, 6);
        x.add(5, 0, 0);
        runIs(x, 0, new int[][] {{0, 3, 9}, {2, 40, 10}, {2, 30, 10}, {1, 20, 10}, {1, 11, 10}, {1, 12, 10},
            {1, 1, 10}, {1, 2, 10}});
        DropflagMill y = Due.mill(kinds, start);
        y.add(1, 0, 3);
        y.add(1, 6, 1);
        y.add(1, 1, 2);
        y.add(1, 9, 12);
        runIs(y, 0, new int[][] {{1, 1, 5}, {1, 2, 5}, {1, 20, 6}, {2, 30, 8}, {2, 40, 9}, {1, 11, 9}, {1, 12, 9}});
    }

    private static void loops() {
        // rounds within rounds, and an IF of both ways
        DropflagMill x = Due.mill(new int[] {0}, new int[][] {
            {0, 0, -1}, {10, 3, 0}, {10, 2, 0}, {16, 0, 1}, {11, 0, 0}, {8, 0, 0}, {5, 0, 0}, {9, 0, 0}, {6, 0, 9},
            {11, 0, 0}, {11, 0, 0}});
        runIs(x, 0, new int[][] {{0, 1, 6}, {0, 3, 6}, {0, 5, 6}});
        Due.is("ofRun(1)", x.ofRun(1), 2 + 3 * (1 + 2 * 2 + 4 + 1));
        x.put(0, 0, 0, -2);
        runIs(x, 0, new int[][] {{0, 11, 6}, {0, 13, 6}});
        Due.is("ofRun(1)", x.ofRun(1), 2 + 3 * (1 + 2 * 2 + 4 + 1) - 1);
        DropflagMill y = Due.mill(new int[] {0}, new int[][] {{0, 0, 0}, {8, 0, 0}, {5, 0, 0}, {11, 0, 0}, {10, 1, 0}, {11, 0, 0}});
        runIs(y, 0);
        Due.is("an IF that is not, and a LOOP of one round: ofRun(1)", y.ofRun(1), 5);
    }

    /** LOOPS in one another, and a last one that fills up to just 500 STEPS, and to one more. */
    private static void steps() {
        // three LOOPS of 4 with 5 READS inside: each inner round takes 6
        int inner = 4 * 6 + 1;
        int middle = 4 * (inner + 1) + 1;
        DropflagMill x = Due.mill(new int[] {0, 1}, new int[][] {
            {0, 0, 1}, {10, 4, 0}, {10, 4, 0}, {10, 4, 0}, {5, 0, 0}, {5, 0, 0}, {5, 0, 0}, {5, 0, 0}, {5, 0, 0},
            {11, 0, 0}, {11, 0, 0}, {11, 0, 0}});
        int all = 1 + 4 * (middle + 1) + 1;
        Due.is("the sum", all, 426);
        Due.is("run()", x.run(), 0);
        Due.is("ofRun(1)", x.ofRun(1), 426);
        Due.is("ofRun(2)", x.ofRun(2), 320);
        // 74 more are 500: a LOOP 4 of 17 and its END is 1 + 72, and one more
        x.add(10, 4, 0);
        for (int k = 0; k < 17; k++) {
            x.add(5, 0, 0);
        }
        x.add(11, 0, 0);
        x.add(0, 3, 9);
        Due.is("many(1)", x.many(1), 32);
        Due.is("run()", x.run(), 0);
        Due.is("just 500: ofRun(1)", x.ofRun(1), 500);
        Due.is("ofRun(5)", x.ofRun(5), 1);
        x.put(31, 15, 0, 0);
        Due.is("a panic as the last of them: run()", x.run(), 1);
        Due.is("ofRun(1)", x.ofRun(1), 500);
        x.put(0, 0, 3, -1);
        x.put(31, 0, 3, 9);
        for (int k = 4; k <= 8; k++) {
            x.put(k, 6, 3, -1);
        }
        for (int k = 13; k <= 29; k++) {
            x.put(k, 5, 3, 0);
        }
        Due.is("a panic of a drop as the last of them: run()", x.run(), 1);
        Due.is("ofRun(8)", x.ofRun(8), 31);
        Due.is("ofRun(5)", x.ofRun(5), 2);
        DropflagMill y = Due.mill(new int[] {5, 1}, new int[][] {
            {0, 3, 7}, {10, 4, 0}, {10, 4, 0}, {10, 4, 0}, {10, 4, 0}, {0, 0, 1}, {11, 0, 0}, {11, 0, 0}, {11, 0, 0},
            {11, 0, 0}});
        Due.is("run()", y.run(), 3);
        Due.is("ofRun(1)", y.ofRun(1), 500);
        Due.is("the last one and the box are left: ofRun(7)", y.ofRun(7), 2);
        Due.is("ofRun(4) - ofRun(6)", y.ofRun(4) - y.ofRun(6), 1);
        Due.is("ofRun(8)", y.ofRun(8), -1);
        Due.is("ofRun(2)", y.ofRun(2), y.ofRun(6));
        DropflagMill z = Due.mill(new int[] {0}, new int[][] {{0, 0, 1}, {10, 4, 0}, {10, 4, 0}, {10, 4, 0},
            {5, 0, 0}, {5, 0, 0}, {5, 0, 0}, {5, 0, 0}, {5, 0, 0}, {11, 0, 0}, {11, 0, 0}, {11, 0, 0}, {10, 4, 0},
            {5, 0, 0}, {5, 0, 0}, {5, 0, 0}, {5, 0, 0}, {5, 0, 0}, {5, 0, 0}, {5, 0, 0}, {5, 0, 0}, {5, 0, 0},
            {5, 0, 0}, {5, 0, 0}, {5, 0, 0}, {5, 0, 0}, {5, 0, 0}, {5, 0, 0}, {5, 0, 0}, {5, 0, 0}, {5, 0, 0},
            {11, 0, 0}});
        Due.is("501 would be: run()", z.run(), 3);
        Due.is("ofRun(1)", z.ofRun(1), 500);
    }

    private static void borrows() {
        // 0 PAIR, 1 NUMBER, 2 and 3 ALONE, 4 and 5 SHARED, 6 BOX
        DropflagMill x = Due.mill(new int[] {2, 0, 4, 4, 3, 3, 1}, new int[][] {
            {0, 0, 1}, {0, 3, 2}, {0, 18, 3}, {4, 6, 0}, {5, 6, 0}, {1, 9, 6}, {6, 9, 8}, {5, 9, 0}, {3, 12, 2},
            {2, 15, 12}, {3, 12, 3}, {5, 15, 0}, {5, 12, 0}, {4, 6, 1}, {6, 6, -3}, {4, 6, 18}, {6, 6, 9}, {5, 0, 0},
            {4, 9, 3}, {6, 9, 4}, {5, 3, 0}, {6, 1, 5}});
        runIs(x, 0, new int[][] {{0, 3, 4}, {0, 16, 7}, {0, 8, 11}, {0, 2, 12}, {0, 5, 17}, {0, 4, 20},
            {1, 9, 22}, {1, 5, 22}, {1, 8, 22}});
    }

    private static void nodes() {
        // 0, 1, 2 COUNTED
        DropflagMill x = Due.mill(new int[] {5, 5, 5}, new int[][] {
            {0, 0, 1}, {0, 3, 2}, {0, 6, 3}, {12, 0, 3}, {12, 3, 6}, {7, 6, 0}, {7, 3, 0}, {5, 0, 0}, {7, 0, 0}});
        runIs(x, 0, new int[][] {{0, 1, 7}, {2, 1, 8}, {2, 2, 8}, {2, 3, 8}});
        countsAre(x, 0, 3, 0, 3, 0, -1);
        // a ring leaks
        x.put(5, 12, 6, 0);
        x.put(6, 5, 3, 0);
        runIs(x, 0, new int[][] {{0, 2, 6}, {0, 1, 7}});
        countsAre(x, 0, 3, 0, 0, 3, -1);
        // a NODE linked to itself leaks; linked anew, it does not, and what it was linked to goes
        DropflagMill y = Due.mill(new int[] {5, 5}, new int[][] {{0, 0, 1}, {12, 0, 0}});
        runIs(y, 0);
        countsAre(y, 0, 1, 0, 0, 1, -1);
        y.add(0, 3, 2);
        y.add(12, 0, 3);
        y.add(7, 3, 0);
        y.add(0, 3, 3);
        y.add(12, 0, 3);
        y.add(12, 0, 3);
        runIs(y, 0, new int[][] {{2, 2, 6}, {2, 1, 8}, {2, 3, 8}});
        // COPY counts 1 more; onto itself it changes nothing
        DropflagMill z = Due.mill(new int[] {5, 5, 5}, new int[][] {
            {0, 0, 1}, {2, 0, 0}, {2, 3, 0}, {0, 6, 2}, {2, 6, 3}, {6, 6, 4}, {7, 0, 0}, {7, 3, 0}, {5, 6, 0}, {0, 6, 7}});
        runIs(z, 0, new int[][] {{2, 2, 4}, {0, 4, 8}, {2, 4, 9}, {2, 7, 10}});
        // a number below 0 of a NODE does not panic
        DropflagMill w = Due.mill(new int[] {5}, new int[][] {{0, 0, -1}});
        runIs(w, 0, new int[][] {{2, -1, 1}});
    }

    private static void held() {
        int[] kinds = {5, 5, 1};
        int[][] start = {{0, 0, 1}, {0, 6, 5}, {2, 3, 0}, {13, 0, 0}};
        DropflagMill x = Due.mill(kinds, start);
        x.add(13, 3, 0);
        x.add(5, 6, 0);
        runIs(x, 1, new int[][] {{1, 5, 6}, {2, 1, 6}});
        countsAre(x, 1, 1, 1, 1, 0, 4);
        x.put(4, 5, 3, 0);
        runIs(x, 1, new int[][] {{1, 5, 6}, {2, 1, 6}});
        Due.is("ofRun(8)", x.ofRun(8), 4);
        x.put(4, 6, 3, 9);
        runIs(x, 1, new int[][] {{1, 5, 6}, {2, 1, 6}});
        x.put(4, 14, 3, 0);
        runIs(x, 0, new int[][] {{0, 5, 5}, {1, 5, 6}, {2, 1, 6}});
        x.put(5, 13, 0, 0);
        Due.is("held anew: run()", x.run(), 0);
        x.put(4, 14, 0, 0);
        x.put(3, 14, 0, 0);
        Due.is("let go of one that is not held: run()", x.run(), 0);
        // DROP, LINK and COPY of one that is HELD do not panic
        DropflagMill y = Due.mill(kinds, start);
        y.add(12, 3, 0);
        y.add(2, 0, 3);
        y.add(7, 0, 0);
        Due.is("run()", y.run(), 0);
        // a new NODE in its place is not HELD
        DropflagMill z = Due.mill(kinds, start);
        z.add(0, 0, 2);
        z.add(5, 0, 0);
        z.add(13, 0, 0);
        Due.is("run()", z.run(), 0);
    }

    private static void panics() {
        // 0 BOX, 1 PAIR, 2 NUMBER
        int[] kinds = {1, 2, 0};
        DropflagMill x = Due.mill(kinds, new int[][] {{0, 0, 1}, {0, 3, -1}, {7, 3, 0}, {0, 3, 4}});
        runIs(x, 1, new int[][] {{1, -1, 2}, {1, 0, 2}, {1, 1, 4}});
        countsAre(x, 3, 0, 3, 0, 0, 2);
        Due.is("ofRun(1)", x.ofRun(1), 3);
        // the LINE is done to its end: a gets the new one, which is dropped behind
        x.put(2, 0, 3, 8);
        runIs(x, 1, new int[][] {{1, -1, 2}, {1, 0, 2}, {1, 8, 4}, {1, 9, 4}, {1, 1, 4}});
        // at the END OF ALL: it is done to its end
        x.put(2, 5, 3, 0);
        x.put(3, 5, 3, 0);
        runIs(x, 1, new int[][] {{0, -1, 2}, {0, -1, 3}, {1, -1, 4}, {1, 0, 4}, {1, 1, 4}});
        countsAre(x, 3, 0, 3, 0, 0, 4);
        // a PANIC itself, in a LOOP
        DropflagMill y = Due.mill(kinds, new int[][] {{0, 0, 1}, {10, 3, 0}, {5, 0, 0}, {15, 0, 0}, {11, 0, 0}});
        runIs(y, 1, new int[][] {{0, 1, 2}, {1, 1, 5}});
        Due.is("ofRun(1)", y.ofRun(1), 4);
        Due.is("ofRun(8)", y.ofRun(8), 3);
        // below 0 only as it is dropped
        DropflagMill z = Due.mill(kinds, new int[][] {{0, 0, -1}, {5, 0, 0}, {6, 0, 0}, {0, 6, -4}, {0, 6, -5}});
        runIs(z, 0, new int[][] {{0, -1, 1}, {1, 0, 5}});
    }

    private static void aborts() {
        // 0 BOX, 1 PAIR, 2 COUNTED
        int[] kinds = {1, 2, 5};
        DropflagMill x = Due.mill(kinds, new int[][] {{0, 0, 1}, {0, 6, 2}, {0, 3, -3}, {7, 3, 0}, {5, 0, 0}});
        runIs(x, 2, new int[][] {{1, -3, 3}, {1, -2, 3}});
        countsAre(x, 3, 1, 2, 0, 2, 3);
        Due.is("ofRun(1)", x.ofRun(1), 4);
        // the second one behind the LINE of the first one
        x.put(3, 15, 0, 0);
        runIs(x, 2, new int[][] {{2, 2, 5}, {1, -3, 5}});
        countsAre(x, 3, 1, 1, 1, 2, 3);
        // both at the END OF ALL
        x.put(3, 5, 0, 0);
        runIs(x, 2, new int[][] {{0, 1, 3}, {0, 1, 4}, {2, 2, 5}, {1, -3, 5}, {1, -2, 5}});
        countsAre(x, 3, 1, 2, 1, 1, 5);
        // an ABORT within a MAKE
        x.put(3, 0, 3, 7);
        runIs(x, 2, new int[][] {{1, -3, 3}, {1, -2, 3}});
        countsAre(x, 5, 1, 2, 0, 4, 3);
        // the first one of the two is told and panics, the other one is done
        x.put(2, 0, 3, -1);
        runIs(x, 1, new int[][] {{1, -1, 3}, {1, 0, 3}, {2, 2, 5}, {1, 7, 5}, {1, 8, 5}, {1, 1, 5}});
    }

    private static void kept() {
        DropflagMill x = Due.mill(new int[] {0, 1}, new int[][] {
            {0, 0, 0}, {0, 3, 1}, {10, 4, 0}, {10, 4, 0}, {16, 0, 1}, {5, 0, 0}, {0, 3, 5}, {5, 0, 0}, {5, 0, 0},
            {11, 0, 0}, {11, 0, 0}});
        Due.is("run()", x.run(), 0);
        Due.is("ofRun(2)", x.ofRun(2), 65);
        Due.is("told(59, 0)", x.told(59, 0), 0);
        Due.is("told(59, 1)", x.told(59, 1), 15);
        Due.is("told(57, 0)", x.told(57, 0), 1);
        Due.fails(x, INDEX, "told(60, 0)", () -> x.told(60, 0));
        Due.fails(x, INDEX, "told(64, 0)", () -> x.told(64, 0));
        Due.is("of what is kept: meanRead()", x.meanRead(), 8.0);
        // no READ
        DropflagMill y = Due.mill(new int[] {1}, new int[][] {{0, 0, 4}});
        runIs(y, 0, new int[][] {{1, 4, 1}});
        Due.is("meanRead()", y.meanRead(), 0.0);
    }

    /** What is told of the latest RUN stays as the program changes, till the next one. */
    private static void latestStays() {
        DropflagMill x = Due.mill(new int[] {1}, new int[][] {{0, 0, -4}, {5, 0, 0}});
        runIs(x, 1, new int[][] {{0, -4, 1}, {1, -4, 2}});
        x.cut();
        x.add(15, 0, 0);
        x.add(15, 0, 0);
        x.leakedBy(1);
        x.outcomeWith(0, 3);
        x.faultsWithout(0);
        x.couldDrop(1, 0);
        x.digest();
        Due.is("ofRun(0)", x.ofRun(0), 1);
        Due.is("ofRun(1)", x.ofRun(1), 2);
        Due.is("ofRun(8)", x.ofRun(8), 2);
        Due.is("ofRun(9)", x.ofRun(9), 1);
        Due.is("told(1, 2)", x.told(1, 2), 2);
        Due.is("meanRead()", x.meanRead(), -4.0);
        x.put(0, 11, 0, 0);
        Due.fails(x, STATE, "run()", () -> x.run());
        Due.is("ofRun(9)", x.ofRun(9), 1);
        Due.is("ofRun(2)", x.ofRun(2), 2);
        x.put(0, 15, 0, 0);
        runIs(x, 1);
        Due.is("ofRun(9)", x.ofRun(9), 2);
    }
}
