/** Promises 19 to 23: what would be, and that nothing is changed by asking. */
public final class WouldBeTest {
    private static final Class<?> INDEX = IndexOutOfBoundsException.class;
    private static final Class<?> ARGUMENT = IllegalArgumentException.class;

    public static void main(String[] args) {
        faultsWithout();
        couldDrop();
        couldDropInFull();
        leakedBy();
        outcomeWith();
        digest();
        Due.end();
    }

    private static void faultsWithout() {
        // 0 NUMBER, 1 BOX, 2 SHARED
        DropflagMill x = Due.mill(new int[] {0, 1, 3}, new int[][] {
            {0, 0, 1}, {0, 3, 2}, {3, 6, 3}, {8, 0, 0}, {6, 3, 4}, {11, 0, 0}, {5, 6, 0}, {7, 3, 0}, {5, 3, 0}});
        Due.is("many(2)", x.many(2), 2);
        int[] due = {3, 4, 2, 1, 1, 1, 1, 1, 1};
        for (int line = 0; line < due.length; line++) {
            Due.is("faultsWithout(" + line + ")", x.faultsWithout(line), due[line]);
        }
        Due.fails(x, INDEX, "faultsWithout(9)", () -> x.faultsWithout(9));
        Due.fails(x, INDEX, "faultsWithout(-1)", () -> x.faultsWithout(-1));
    }

    private static void couldDrop() {
        // 0 NUMBER, 1 PAIR, 2 SHARED, 3 COUNTED, 4 BOX
        DropflagMill x = Due.mill(new int[] {0, 2, 3, 5, 1}, new int[][] {
            {0, 0, 1}, {0, 3, 1}, {0, 9, 1}, {3, 6, 5}, {8, 0, 0}, {0, 12, 1}, {9, 0, 0}, {11, 0, 0}, {5, 6, 0},
            {10, 2, 0}, {11, 0, 0}, {15, 0, 0}, {5, 0, 0}});
        Due.is("couldDrop(1, 3)", x.couldDrop(1, 3), 1);
        Due.is("couldDrop(2, 3)", x.couldDrop(2, 3), 0);
        Due.is("borrowed: couldDrop(4, 3)", x.couldDrop(4, 3), 3);
        Due.is("borrowed: couldDrop(8, 5)", x.couldDrop(8, 5), 3);
        Due.is("the other part: couldDrop(8, 4)", x.couldDrop(8, 4), 0);
        Due.is("no more wanted: couldDrop(9, 5)", x.couldDrop(9, 5), 0);
        Due.is("in a branch: couldDrop(6, 12)", x.couldDrop(6, 12), 0);
        Due.is("in the other branch: couldDrop(7, 12)", x.couldDrop(7, 12), 1);
        Due.is("behind both: couldDrop(8, 12)", x.couldDrop(8, 12), 2);
        Due.is("round a loop: couldDrop(10, 9)", x.couldDrop(10, 9), 2);
        Due.is("ahead of a loop: couldDrop(9, 9)", x.couldDrop(9, 9), 0);
        Due.is("dead: couldDrop(12, 12)", x.couldDrop(12, 12), 0);
        Due.is("dead: couldDrop(13, 12)", x.couldDrop(13, 12), 0);
        Due.is("ahead of the panic: couldDrop(11, 9)", x.couldDrop(11, 9), 0);
        Due.fails(x, INDEX, "couldDrop(14, 3)", () -> x.couldDrop(14, 3));
        Due.fails(x, INDEX, "couldDrop(-1, 3)", () -> x.couldDrop(-1, 3));
        Due.fails(x, INDEX, "couldDrop(0, 0)", () -> x.couldDrop(0, 0));
        Due.fails(x, INDEX, "couldDrop(0, 6)", () -> x.couldDrop(0, 6));
        Due.fails(x, INDEX, "couldDrop(0, 10)", () -> x.couldDrop(0, 10));
        Due.fails(x, INDEX, "couldDrop(0, -1)", () -> x.couldDrop(0, -1));
        Due.fails(x, INDEX, "couldDrop(0, 15)", () -> x.couldDrop(0, 15));
        x.add(8, 0, 0);
        Due.is("not whole: couldDrop(0, 3)", x.couldDrop(0, 3), 0);
        Due.is("not whole: couldDrop(13, 3)", x.couldDrop(13, 3), 0);
    }

    private static void couldDropInFull() {
        DropflagMill x = new DropflagMill();
        x.variable(1);
        x.add(0, 0, 1);
        for (int line = 1; line < 32; line++) {
            x.add(5, 0, 0);
        }
        Due.is("ahead of all: couldDrop(0, 0)", x.couldDrop(0, 0), 1);
        for (int line = 1; line <= 32; line++) {
            Due.is("couldDrop(" + line + ", 0)", x.couldDrop(line, 0), 0);
        }
        x.put(31, 7, 0, 0);
        Due.is("couldDrop(31, 0)", x.couldDrop(31, 0), 0);
        Due.is("couldDrop(32, 0)", x.couldDrop(32, 0), 1);
        Due.is("many(1)", x.many(1), 32);
    }

    private static void leakedBy() {
        // 0 BOX, 1 COUNTED
        DropflagMill x = Due.mill(new int[] {1, 5}, new int[][] {
            {0, 0, -1}, {0, 3, 1}, {12, 3, 3}, {5, 0, 0}, {10, 1, 0}, {11, 0, 0}});
        Due.is("leakedBy(3)", x.leakedBy(3), 1);
        Due.is("aborted at the box: leakedBy(5), not whole", x.leakedBy(5), -1);
        Due.is("not whole: leakedBy(4)", x.leakedBy(4), -1);
        Due.is("leakedBy(0)", x.leakedBy(0), 0);
        Due.is("leakedBy(1)", x.leakedBy(1), 0);
        Due.is("leakedBy(2)", x.leakedBy(2), 0);
        Due.fails(x, INDEX, "leakedBy(6)", () -> x.leakedBy(6));
        Due.fails(x, INDEX, "leakedBy(-1)", () -> x.leakedBy(-1));
        DropflagMill y = Due.mill(new int[] {1, 2}, new int[][] {{0, 0, 5}, {0, 3, -4}, {5, 0, 0}, {5, 0, 0}});
        Due.is("aborted: leakedBy(2)", y.leakedBy(2), 2);
        y.put(2, 7, 0, 0);
        Due.is("with faults: leakedBy(1)", y.leakedBy(1), 0);
        y.put(1, 5, 3, 0);
        Due.is("with faults ahead: leakedBy(2)", y.leakedBy(2), -1);
        Due.is("the fault itself gone: leakedBy(1)", y.leakedBy(1), 0);
        Due.is("ofRun(9)", y.ofRun(9), 0);
    }

    private static void outcomeWith() {
        // 0 NUMBER, 1 BOX, 2 PAIR
        DropflagMill x = Due.mill(new int[] {0, 1, 2}, new int[][] {
            {0, 0, 0}, {0, 3, 1}, {0, 6, 1}, {8, 0, 0}, {6, 3, -1}, {11, 0, 0}, {5, 3, 0}});
        Due.is("outcomeWith(0, 0)", x.outcomeWith(0, 0), 0);
        Due.is("outcomeWith(0, 1)", x.outcomeWith(0, 1), 1);
        Due.is("outcomeWith(2, -1)", x.outcomeWith(2, -1), 1);
        Due.is("outcomeWith(2, -2)", x.outcomeWith(2, -2), 2);
        Due.is("outcomeWith(2, -99)", x.outcomeWith(2, -99), 2);
        Due.is("outcomeWith(2, 99)", x.outcomeWith(2, 99), 0);
        Due.is("outcomeWith(4, 7)", x.outcomeWith(4, 7), 0);
        Due.is("ofLine(2, 2)", x.ofLine(2, 2), 1);
        Due.fails(x, INDEX, "outcomeWith(3, 0)", () -> x.outcomeWith(3, 0));
        Due.fails(x, INDEX, "outcomeWith(3, 100)", () -> x.outcomeWith(3, 100));
        Due.fails(x, INDEX, "outcomeWith(7, 0)", () -> x.outcomeWith(7, 0));
        Due.fails(x, INDEX, "outcomeWith(-1, 0)", () -> x.outcomeWith(-1, 0));
        Due.fails(x, ARGUMENT, "outcomeWith(0, 100)", () -> x.outcomeWith(0, 100));
        Due.fails(x, ARGUMENT, "outcomeWith(4, -100)", () -> x.outcomeWith(4, -100));
        x.put(6, 1, 3, 7);
        Due.is("ofRun(9)", x.ofRun(9), 0);
        Due.is("outcomeWith(0, 1)", x.outcomeWith(0, 1), 1);
        x.add(7, 7, 0);
        Due.is("with faults: outcomeWith(0, 1)", x.outcomeWith(0, 1), -1);
        x.put(0, 11, 0, 0);
        Due.is("not whole: outcomeWith(1, 1)", x.outcomeWith(1, 1), -1);
        // the rounds of a LOOP that go on for too long only if an IF lets them
        DropflagMill y = Due.mill(new int[] {0}, new int[][] {{0, 0, 0}, {8, 0, 0}, {10, 4, 0}, {10, 4, 0},
            {10, 4, 0}, {10, 4, 0}, {16, 0, 1}, {11, 0, 0}, {11, 0, 0}, {11, 0, 0}, {11, 0, 0}, {11, 0, 0}});
        Due.is("outcomeWith(0, 0)", y.outcomeWith(0, 0), 0);
        Due.is("outcomeWith(0, 1)", y.outcomeWith(0, 1), 3);
        Due.is("leakedBy(6)", y.leakedBy(6), 0);
    }

    private static void digest() {
        DropflagMill x = new DropflagMill();
        long d = 58135;
        for (int k = 0; k < 7 + 10; k++) {
            d = d * 31;
        }
        Due.is("of nothing: digest()", x.digest(), d);
        Due.is("again: digest()", x.digest(), d);
        x.variable(4);
        x.variable(0);
        x.add(0, 3, 5);
        x.add(4, 0, 3);
        x.add(16, 3, 1);
        x.add(6, 0, 2);
        Due.is("behind lines: digest()", x.digest(), told(x));
        x.put(2, 5, 0, 0);
        x.run();
        Due.is("behind a run: digest()", x.digest(), told(x));
        x.cut();
        x.add(11, 0, 0);
        Due.is("not whole: digest()", x.digest(), told(x));
    }

    /** The digest by the words of the document, from the answers of the other calls. */
    private static long told(DropflagMill x) {
        long d = 58135;
        for (int what = 0; what <= 6; what++) d = d * 31 + x.many(what);
        for (int v = 0; v < x.many(0); v++) {
            for (int what = 0; what <= 3; what++) d = d * 31 + x.ofVariable(v, what);
        }
        for (int line = 0; line < x.many(1); line++) {
            for (int what = 3; what <= 5; what++) d = d * 31 + x.ofLine(line, what);
            for (int v = 0; v < x.many(0); v++) {
                d = d * 31 + x.state(line, 3 * v);
                d = d * 31 + x.inTheWay(line, 3 * v);
                int kind = x.ofVariable(v, 0);
                if (kind == 3 || kind == 4) {
                    d = d * 31 + x.holds(line, v);
                    d = d * 31 + (x.isWanted(line, v) ? 1 : 0);
                }
            }
            d = d * 31 + x.faultsWithout(line);
        }
        for (int loan = 0; loan < x.many(3); loan++) {
            for (int what = 0; what <= 3; what++) d = d * 31 + x.ofLoan(loan, what);
        }
        for (int k = 0; k < x.many(2); k++) {
            for (int what = 0; what <= 4; what++) d = d * 31 + x.fault(k, what);
        }
        for (int what = 0; what <= 9; what++) d = d * 31 + x.ofRun(what);
        for (int k = 0; k < Math.min(60, x.ofRun(2)); k++) {
            for (int what = 0; what <= 2; what++) d = d * 31 + x.told(k, what);
        }
        if (x.many(1) > 0) d = d * 31 + x.leakedBy(x.many(1) - 1);
        return d;
    }
}
