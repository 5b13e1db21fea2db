/** Promises 7 to 13 and 17: what is checked. */
public final class CheckTest {
    private static final Class<?> INDEX = IndexOutOfBoundsException.class;
    private static final Class<?> ARGUMENT = IllegalArgumentException.class;

    public static void main(String[] args) {
        states();
        holdsAndWanted();
        inTheWay();
        faultsOfUses();
        faultsOfTakes();
        notWhole();
        flags();
        variables();
        many();
        Due.end();
    }

    private static void states() {
        // 0 NUMBER, 1 PAIR, 2 BOX
        DropflagMill x = Due.mill(new int[] {0, 2, 1}, new int[][] {
            {0, 0, 1}, {0, 3, 4}, {8, 0, 0}, {1, 6, 4}, {9, 0, 0}, {15, 0, 0}, {5, 0, 0}, {11, 0, 0},
            {10, 1, 0}, {7, 5, 0}, {0, 5, 1}, {11, 0, 0}});
        Due.is("state(0, 0)", x.state(0, 0), 2);
        Due.is("state(1, 0)", x.state(1, 0), 1);
        Due.is("state(2, 3)", x.state(2, 3), 1);
        Due.is("state(4, 3)", x.state(4, 3), 2);
        Due.is("state(4, 4)", x.state(4, 4), 2);
        Due.is("state(4, 5)", x.state(4, 5), 1);
        Due.is("state(4, 6)", x.state(4, 6), 1);
        Due.is("dead: state(6, 3)", x.state(6, 3), 0);
        Due.is("behind the panic: state(7, 4)", x.state(7, 4), 2);
        Due.is("state(10, 5)", x.state(10, 5), 2);
        Due.is("state(9, 5)", x.state(9, 5), 1);
        Due.is("end of all: state(12, 5)", x.state(12, 5), 1);
        Due.fails(x, INDEX, "state(13, 0)", () -> x.state(13, 0));
        Due.fails(x, INDEX, "state(-1, 0)", () -> x.state(-1, 0));
        Due.fails(x, INDEX, "state(0, 1)", () -> x.state(0, 1));
        Due.fails(x, INDEX, "state(0, 7)", () -> x.state(0, 7));
        Due.fails(x, INDEX, "state(0, 9)", () -> x.state(0, 9));
        Due.fails(x, INDEX, "state(0, -1)", () -> x.state(0, -1));
        Due.fails(x, INDEX, "state(0, min)", () -> x.state(0, Integer.MIN_VALUE));
        Due.is("put", x.put(5, 5, 0, 0), 15);
        Due.is("both: state(7, 4)", x.state(7, 4), 3);
        Due.is("both: state(7, 3)", x.state(7, 3), 3);
        Due.is("both: state(7, 6)", x.state(7, 6), 3);
        x.cut();
        Due.is("not whole: state(0, 0)", x.state(0, 0), 0);
        DropflagMill y = Due.mill(new int[] {1}, new int[][] {{15, 0, 0}});
        Due.is("dead end: state(1, 0)", y.state(1, 0), 0);
        DropflagMill z = Due.mill(new int[] {1, 2}, new int[][] {});
        Due.is("no lines: state(0, 0)", z.state(0, 0), 2);
        // a MOVE of a PLACE to itself leaves it there; a COPY leaves b there
        DropflagMill w = Due.mill(new int[] {1, 5, 5}, new int[][] {
            {0, 0, 1}, {1, 0, 0}, {0, 3, 1}, {2, 6, 3}});
        Due.is("state(2, 0)", w.state(2, 0), 1);
        Due.is("state(4, 3)", w.state(4, 3), 1);
        Due.is("state(4, 6)", w.state(4, 6), 1);
    }

    private static void holdsAndWanted() {
        // 0 NUMBER, 1 NUMBER, 2 and 3 SHARED, 4 and 5 ALONE
        DropflagMill x = Due.mill(new int[] {0, 0, 3, 3, 4, 4}, new int[][] {
            {0, 0, 1}, {0, 3, 2}, {3, 6, 0}, {10, 2, 0}, {2, 9, 6}, {3, 6, 3}, {5, 9, 0}, {11, 0, 0},
            {4, 12, 0}, {1, 15, 12}, {6, 15, 4}, {15, 0, 0}, {3, 6, 0}, {5, 6, 0}});
        Due.is("holds(2, 2)", x.holds(2, 2), 0);
        Due.is("holds(3, 2)", x.holds(3, 2), 1);
        Due.is("round the loop: holds(4, 2)", x.holds(4, 2), 3);
        Due.is("round the loop: holds(4, 3)", x.holds(4, 3), 3);
        Due.is("holds(6, 2)", x.holds(6, 2), 2);
        Due.is("holds(6, 3)", x.holds(6, 3), 3);
        Due.is("holds(9, 4)", x.holds(9, 4), 4);
        Due.is("moved: holds(10, 5)", x.holds(10, 5), 4);
        Due.is("b can hold it still: holds(10, 4)", x.holds(10, 4), 4);
        Due.is("dead: holds(12, 5)", x.holds(12, 5), 0);
        Due.is("dead: holds(13, 2)", x.holds(13, 2), 0);
        Due.is("isWanted(2, 2)", x.isWanted(2, 2), false);
        Due.is("isWanted(3, 2)", x.isWanted(3, 2), true);
        Due.is("isWanted(5, 2)", x.isWanted(5, 2), false);
        Due.is("round the loop: isWanted(6, 2)", x.isWanted(6, 2), true);
        Due.is("isWanted(5, 3)", x.isWanted(5, 3), true);
        Due.is("isWanted(7, 3)", x.isWanted(7, 3), false);
        Due.is("isWanted(9, 4)", x.isWanted(9, 4), true);
        Due.is("isWanted(10, 4)", x.isWanted(10, 4), false);
        Due.is("isWanted(10, 5)", x.isWanted(10, 5), true);
        Due.is("ahead of a panic: isWanted(11, 2)", x.isWanted(11, 2), false);
        Due.is("dead, but a way from there: isWanted(13, 2)", x.isWanted(13, 2), true);
        Due.is("end of all: isWanted(14, 2)", x.isWanted(14, 2), false);
        Due.is("ofLoan(0, 3)", x.ofLoan(0, 3), 6);
        Due.is("ofLoan(1, 3)", x.ofLoan(1, 3), 6);
        Due.is("ofLoan(2, 3)", x.ofLoan(2, 3), 10);
        Due.is("of a dead line: ofLoan(3, 3)", x.ofLoan(3, 3), -1);
        Due.is("ofLoan(1, 0)", x.ofLoan(1, 0), 5);
        Due.is("ofLoan(1, 1)", x.ofLoan(1, 1), 3);
        Due.is("ofLoan(1, 2)", x.ofLoan(1, 2), 0);
        Due.is("ofLoan(2, 2)", x.ofLoan(2, 2), 1);
        Due.fails(x, INDEX, "holds(15, 2)", () -> x.holds(15, 2));
        Due.fails(x, INDEX, "holds(-1, 2)", () -> x.holds(-1, 2));
        Due.fails(x, INDEX, "holds(0, 0)", () -> x.holds(0, 0));
        Due.fails(x, INDEX, "holds(0, 6)", () -> x.holds(0, 6));
        Due.fails(x, INDEX, "holds(0, -1)", () -> x.holds(0, -1));
        Due.fails(x, INDEX, "isWanted(15, 2)", () -> x.isWanted(15, 2));
        Due.fails(x, INDEX, "isWanted(-1, 2)", () -> x.isWanted(-1, 2));
        Due.fails(x, INDEX, "isWanted(0, 1)", () -> x.isWanted(0, 1));
        Due.fails(x, INDEX, "isWanted(0, 6)", () -> x.isWanted(0, 6));
        Due.fails(x, INDEX, "ofLoan(4, 0)", () -> x.ofLoan(4, 0));
        Due.fails(x, INDEX, "ofLoan(-1, 9)", () -> x.ofLoan(-1, 9));
        Due.fails(x, ARGUMENT, "ofLoan(0, 4)", () -> x.ofLoan(0, 4));
        Due.fails(x, ARGUMENT, "ofLoan(0, -1)", () -> x.ofLoan(0, -1));
    }

    private static void inTheWay() {
        // 0 PAIR, 1 and 2 SHARED, 3 ALONE
        DropflagMill x = Due.mill(new int[] {2, 3, 3, 4}, new int[][] {
            {0, 0, 1}, {3, 3, 1}, {3, 6, 2}, {5, 6, 0}, {5, 3, 0}, {4, 9, 0}, {6, 9, 7}});
        Due.is("inTheWay(3, 0)", x.inTheWay(3, 0), 0);
        Due.is("inTheWay(3, 1)", x.inTheWay(3, 1), 0);
        Due.is("inTheWay(3, 2)", x.inTheWay(3, 2), 1);
        Due.is("not wanted: inTheWay(4, 2)", x.inTheWay(4, 2), -1);
        Due.is("inTheWay(4, 1)", x.inTheWay(4, 1), 0);
        Due.is("inTheWay(5, 0)", x.inTheWay(5, 0), -1);
        Due.is("of the pair: inTheWay(6, 2)", x.inTheWay(6, 2), 2);
        Due.is("inTheWay(6, 3)", x.inTheWay(6, 3), -1);
        Due.is("inTheWay(7, 0)", x.inTheWay(7, 0), -1);
        Due.fails(x, INDEX, "inTheWay(8, 0)", () -> x.inTheWay(8, 0));
        Due.fails(x, INDEX, "inTheWay(-1, 0)", () -> x.inTheWay(-1, 0));
        Due.fails(x, INDEX, "inTheWay(0, 4)", () -> x.inTheWay(0, 4));
        Due.fails(x, INDEX, "inTheWay(0, 12)", () -> x.inTheWay(0, 12));
        x.add(9, 0, 0);
        Due.is("not whole: inTheWay(3, 0)", x.inTheWay(3, 0), -1);
        Due.is("not whole: holds(3, 1)", x.holds(3, 1), 0);
        Due.is("not whole: isWanted(3, 1)", x.isWanted(3, 1), false);
        Due.is("not whole: ofLoan(0, 3)", x.ofLoan(0, 3), -1);
        Due.is("not whole: ofLoan(2, 0)", x.ofLoan(2, 0), 5);
    }

    private static void faultIs(DropflagMill x, int k, int... facts) {
        for (int what = 0; what <= 4; what++) {
            Due.is("fault(" + k + ", " + what + ")", x.fault(k, what), facts[what]);
        }
    }

    private static void faultsOfUses() {
        // 0 PAIR, 1 BOX, 2 and 3 COUNTED, 4 NUMBER
        DropflagMill x = Due.mill(new int[] {2, 1, 5, 5, 0}, new int[][] {
            {5, 0, 0}, {0, 0, 1}, {1, 3, 2}, {5, 0, 0}, {0, 12, 1}, {8, 12, 0}, {7, 1, 0}, {11, 0, 0},
            {7, 0, 0}, {12, 6, 9}, {0, 6, 1}, {12, 6, 9}, {16, 12, 1}, {14, 9, 0}, {15, 0, 0}, {5, 0, 0}});
        Due.is("many(2)", x.many(2), 6);
        faultIs(x, 0, 1, 0, 1, -1, -1);
        faultIs(x, 1, 1, 3, 2, -1, -1);
        faultIs(x, 2, 2, 8, 1, -1, -1);
        faultIs(x, 3, 1, 9, 6, -1, -1);
        faultIs(x, 4, 1, 11, 9, -1, -1);
        faultIs(x, 5, 1, 13, 9, -1, -1);
        Due.fails(x, INDEX, "fault(6, 0)", () -> x.fault(6, 0));
        Due.fails(x, INDEX, "fault(-1, 7)", () -> x.fault(-1, 7));
        Due.fails(x, ARGUMENT, "fault(0, 5)", () -> x.fault(0, 5));
        Due.fails(x, ARGUMENT, "fault(0, -1)", () -> x.fault(0, -1));
        Due.fails(x, IllegalStateException.class, "run()", () -> x.run());
    }

    private static void faultsOfTakes() {
        // 0 PAIR, 1 BOX, 2 NUMBER, 3 NUMBER, 4 SHARED, 5 ALONE; 10 and 11 a SHARED of the NUMBER 2
        int[] kinds = {2, 1, 0, 0, 3, 4};
        int[][] start = {{0, 0, 1}, {0, 3, 1}, {0, 6, 1}, {0, 9, 1}};
        // a SHARED of the PAIR: reads are fine, writes of it or a PART are not, but of something else
        taken(kinds, start, new int[] {3, 12, 0}, new int[] {5, 1, 0}, new int[] {5, 12, 0});
        taken(kinds, start, new int[] {3, 12, 0}, new int[] {6, 2, 4}, new int[] {5, 12, 0}, 3, 2);
        taken(kinds, start, new int[] {3, 12, 0}, new int[] {6, 3, 4}, new int[] {5, 12, 0});
        taken(kinds, start, new int[] {3, 12, 1}, new int[] {6, 2, 4}, new int[] {5, 12, 0});
        taken(kinds, start, new int[] {3, 12, 1}, new int[] {7, 0, 0}, new int[] {5, 12, 0}, 3, 0);
        taken(kinds, start, new int[] {3, 12, 1}, new int[] {0, 0, 4}, new int[] {5, 12, 0}, 3, 0);
        taken(kinds, start, new int[] {3, 12, 1}, new int[] {1, 1, 3}, new int[] {5, 12, 0}, 3, 1);
        taken(kinds, start, new int[] {3, 12, 3}, new int[] {1, 1, 3}, new int[] {5, 12, 0}, 3, 3);
        taken(kinds, start, new int[] {3, 12, 6}, new int[] {2, 9, 6}, new int[] {5, 12, 0});
        taken(kinds, start, new int[] {3, 12, 9}, new int[] {2, 9, 6}, new int[] {5, 12, 0}, 3, 9);
        taken(kinds, start, new int[] {3, 12, 9}, new int[] {16, 9, 6}, new int[] {5, 12, 0}, 3, 9);
        taken(kinds, start, new int[] {3, 12, 9}, new int[] {6, 9, 6}, new int[] {5, 12, 0}, 3, 9);
        taken(kinds, start, new int[] {3, 12, 9}, new int[] {4, 15, 9}, new int[] {5, 12, 0}, 3, 9);
        taken(kinds, start, new int[] {3, 12, 9}, new int[] {3, 12, 9}, new int[] {5, 12, 0});
        // an ALONE: reads are in the way as well
        taken(kinds, start, new int[] {4, 15, 0}, new int[] {5, 1, 0}, new int[] {5, 15, 0}, 4, 1);
        taken(kinds, start, new int[] {4, 15, 0}, new int[] {5, 1, 0}, new int[] {6, 15, 4}, 4, 1);
        taken(kinds, start, new int[] {4, 15, 0}, new int[] {3, 12, 2}, new int[] {5, 15, 0}, 4, 2);
        taken(kinds, start, new int[] {4, 15, 6}, new int[] {2, 9, 6}, new int[] {5, 15, 0}, 4, 6);
        taken(kinds, start, new int[] {4, 15, 9}, new int[] {2, 9, 6}, new int[] {5, 15, 0}, 3, 9);
        taken(kinds, start, new int[] {4, 15, 9}, new int[] {4, 15, 9}, new int[] {5, 15, 0});
        taken(kinds, start, new int[] {4, 15, 9}, new int[] {5, 9, 0}, new int[] {15, 0, 0});
        taken(kinds, start, new int[] {4, 15, 9}, new int[] {5, 15, 0}, new int[] {5, 15, 0});
        // IF takes to READ
        DropflagMill x = Due.mill(new int[] {0, 4}, new int[][] {
            {0, 0, 1}, {4, 3, 0}, {8, 0, 0}, {11, 0, 0}, {5, 3, 0}});
        Due.is("many(2)", x.many(2), 1);
        faultIs(x, 0, 4, 2, 0, 0, 4);
        // the smallest LOAN that counts: 0 is of a BORROW, so that a READ minds the LEND 1 alone
        DropflagMill y = Due.mill(new int[] {0, 3, 4}, new int[][] {
            {0, 0, 1}, {3, 3, 0}, {4, 6, 0}, {5, 0, 0}, {16, 0, 1}, {5, 3, 0}, {5, 6, 0}});
        Due.is("many(2)", y.many(2), 3);
        faultIs(y, 0, 3, 2, 0, 0, 5);
        faultIs(y, 1, 4, 3, 0, 1, 6);
        faultIs(y, 2, 3, 4, 0, 0, 5);
        // what may NOT be had is named first, and nothing else of that LINE
        DropflagMill z = Due.mill(new int[] {1, 1, 3}, new int[][] {
            {0, 0, 1}, {3, 6, 0}, {1, 0, 3}, {5, 6, 0}});
        Due.is("many(2)", z.many(2), 1);
        faultIs(z, 0, 1, 2, 3, -1, -1);
    }

    /** LINES behind the start, of which the middle one is to have the FAULT {number, PLACE}, or none. */
    private static void taken(int[] kinds, int[][] start, int[] loan, int[] middle, int[] last, int... fault) {
        DropflagMill x = Due.mill(kinds, start);
        x.add(loan[0], loan[1], loan[2]);
        x.add(middle[0], middle[1], middle[2]);
        x.add(last[0], last[1], last[2]);
        Due.is(java.util.Arrays.toString(middle) + " faults", x.many(2), fault.length / 2);
        if (fault.length > 0 && x.many(2) > 0) {
            faultIs(x, 0, fault[0], 5, fault[1], 0, 6);
        }
    }

    private static void notWhole() {
        faultAt(new int[][] {{9, 0, 0}}, 0);
        faultAt(new int[][] {{11, 0, 0}}, 0);
        faultAt(new int[][] {{8, 0, 0}}, 0);
        faultAt(new int[][] {{8, 0, 0}, {10, 1, 0}, {5, 0, 0}}, 1);
        faultAt(new int[][] {{8, 0, 0}, {10, 1, 0}, {11, 0, 0}}, 0);
        faultAt(new int[][] {{10, 1, 0}, {9, 0, 0}, {11, 0, 0}}, 1);
        faultAt(new int[][] {{8, 0, 0}, {10, 1, 0}, {9, 0, 0}, {11, 0, 0}, {11, 0, 0}}, 2);
        faultAt(new int[][] {{8, 0, 0}, {9, 0, 0}, {9, 0, 0}, {11, 0, 0}}, 2);
        faultAt(new int[][] {{8, 0, 0}, {11, 0, 0}, {11, 0, 0}, {8, 0, 0}}, 2);
        faultAt(new int[][] {{8, 0, 0}, {9, 0, 0}, {11, 0, 0}, {9, 0, 0}}, 3);
    }

    private static void faultAt(int[][] lines, int line) {
        DropflagMill x = Due.mill(new int[] {0, 3}, lines);
        Due.is("one fault", x.many(2), 1);
        faultIs(x, 0, 5, line, -1, -1, -1);
        Due.is("many(4)", x.many(4), 0);
        Due.is("many(6)", x.many(6), 0);
        Due.is("not whole: state", x.state(lines.length, 0), 0);
    }

    private static void flags() {
        // 0 NUMBER, 1 PAIR, 2 BOX, 3 COUNTED, 4 NUMBER
        int[] kinds = {0, 2, 1, 5, 0};
        int[][] both = {{0, 0, 1}, {8, 0, 0}, {0, 3, 1}, {0, 6, 1}, {0, 9, 1}, {0, 12, 1}, {11, 0, 0}};
        DropflagMill x = Due.mill(kinds, both);
        Due.is("at the end: ofVariable(0, 1)", x.ofVariable(0, 1), 0);
        Due.is("at the end: ofVariable(1, 1)", x.ofVariable(1, 1), 3);
        Due.is("at the end: ofVariable(2, 1)", x.ofVariable(2, 1), 1);
        Due.is("at the end: ofVariable(3, 1)", x.ofVariable(3, 1), 1);
        Due.is("no owned: ofVariable(4, 1)", x.ofVariable(4, 1), 0);
        Due.is("many(4)", x.many(4), 4);
        x.add(0, 4, 1);
        x.add(0, 6, 1);
        x.add(0, 9, 1);
        Due.is("part 1 at the end: ofVariable(1, 1)", x.ofVariable(1, 1), 3);
        x.add(0, 5, 1);
        Due.is("ahead of makes: many(4)", x.many(4), 4);
        DropflagMill y = Due.mill(kinds, both);
        y.add(15, 0, 0);
        Due.is("ahead of a panic: many(4)", y.many(4), 4);
        y.put(7, 10, 1, 0);
        y.add(15, 0, 0);
        y.add(11, 0, 0);
        Due.is("dead end, ahead of a panic: many(4)", y.many(4), 4);
        // a HOLD of any COUNTED is one, as all have to be dropped if it panics
        DropflagMill z = Due.mill(new int[] {0, 1, 5}, new int[][] {
            {0, 0, 1}, {0, 6, 1}, {8, 0, 0}, {0, 3, 1}, {11, 0, 0}, {13, 6, 0}, {15, 0, 0}});
        Due.is("ofVariable(1, 1)", z.ofVariable(1, 1), 1);
        z.put(6, 5, 0, 0);
        z.add(0, 3, 4);
        z.put(5, 5, 0, 0);
        Due.is("ahead of a make: ofVariable(1, 1)", z.ofVariable(1, 1), 1);
        z.put(7, 8, 0, 0);
        z.add(11, 0, 0);
        Due.is("at the end: ofVariable(1, 1)", z.ofVariable(1, 1), 1);
        z.put(3, 5, 0, 0);
        Due.is("nothing: ofVariable(1, 1)", z.ofVariable(1, 1), 0);
        // a MAKE of one PART says nothing of the other one; a LOOP without an END OF ALL that is reached
        DropflagMill w = Due.mill(new int[] {0, 2}, new int[][] {
            {0, 0, 1}, {8, 0, 0}, {0, 3, 1}, {11, 0, 0}, {0, 5, 2}, {0, 4, 2}});
        Due.is("ofVariable(1, 1)", w.ofVariable(1, 1), 3);
        w.put(5, 8, 0, 0);
        w.add(9, 0, 0);
        w.add(11, 0, 0);
        Due.is("ofVariable(1, 1)", w.ofVariable(1, 1), 3);
        DropflagMill v = Due.mill(new int[] {0, 2}, new int[][] {
            {0, 0, 1}, {8, 0, 0}, {0, 4, 1}, {11, 0, 0}, {0, 5, 2}, {0, 4, 2}});
        Due.is("part 0 alone: ofVariable(1, 1)", v.ofVariable(1, 1), 1);
        DropflagMill u = Due.mill(new int[] {0, 2}, new int[][] {
            {0, 0, 1}, {8, 0, 0}, {0, 5, 1}, {11, 0, 0}, {0, 5, 2}, {0, 4, 2}});
        Due.is("part 1 alone: ofVariable(1, 1)", u.ofVariable(1, 1), 2);
        // a DROP ahead of which both may be is a FAULT, but no FLAG
        DropflagMill t = Due.mill(new int[] {0, 1}, new int[][] {
            {0, 0, 1}, {8, 0, 0}, {0, 3, 1}, {11, 0, 0}, {7, 3, 0}});
        Due.is("ahead of a drop: ofVariable(1, 1)", t.ofVariable(1, 1), 0);
    }

    private static void variables() {
        // 0 PAIR, 1 BOX, 2 COUNTED, 3 NUMBER
        DropflagMill x = Due.mill(new int[] {2, 1, 5, 0}, new int[][] {
            {0, 0, 1}, {1, 1, 2}, {1, 3, 1}, {0, 6, 1}, {12, 6, 6}, {2, 6, 6}, {15, 0, 0}, {6, 3, 1}, {10, 3, 0},
            {11, 0, 0}});
        Due.is("ofVariable(0, 2)", x.ofVariable(0, 2), 2);
        Due.is("ofVariable(0, 3)", x.ofVariable(0, 3), 2);
        Due.is("ofVariable(1, 2)", x.ofVariable(1, 2), 1);
        Due.is("ofVariable(1, 3)", x.ofVariable(1, 3), 1);
        Due.is("a line counts once: ofVariable(2, 2)", x.ofVariable(2, 2), 2);
        Due.is("ofVariable(2, 3)", x.ofVariable(2, 3), 2);
        Due.is("a loop uses none: ofVariable(3, 2)", x.ofVariable(3, 2), 0);
        Due.is("ofVariable(3, 3)", x.ofVariable(3, 3), 0);
        Due.is("ofVariable(2, 0)", x.ofVariable(2, 0), 5);
        Due.fails(x, INDEX, "ofVariable(4, 0)", () -> x.ofVariable(4, 0));
        Due.fails(x, INDEX, "ofVariable(-1, 9)", () -> x.ofVariable(-1, 9));
        Due.fails(x, ARGUMENT, "ofVariable(0, 4)", () -> x.ofVariable(0, 4));
        Due.fails(x, ARGUMENT, "ofVariable(0, -1)", () -> x.ofVariable(0, -1));
        x.cut();
        Due.is("not whole: ofVariable(0, 2)", x.ofVariable(0, 2), 2);
        Due.is("not whole: ofVariable(2, 3)", x.ofVariable(2, 3), 2);
    }

    private static void many() {
        DropflagMill x = Due.mill(new int[] {0, 3, 4, 1}, new int[][] {
            {0, 0, 1}, {3, 3, 0}, {3, 3, 0}, {4, 6, 9}, {5, 6, 0}, {5, 3, 0}, {15, 0, 0}, {5, 0, 0}});
        int[] due = {4, 8, 1, 3, 0, 1, 2};
        for (int what = 0; what <= 6; what++) {
            Due.is("many(" + what + ")", x.many(what), due[what]);
        }
        Due.fails(x, ARGUMENT, "many(7)", () -> x.many(7));
        Due.fails(x, ARGUMENT, "many(-1)", () -> x.many(-1));
        x.add(11, 0, 0);
        int[] wrong = {4, 9, 1, 3, 0, 0, 0};
        for (int what = 0; what <= 6; what++) {
            Due.is("not whole: many(" + what + ")", x.many(what), wrong[what]);
        }
    }
}
