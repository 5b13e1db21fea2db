import java.math.BigInteger;

/**
 * Boundary cases of what would be: the promises 19 to 23. Each test names the promise and the sentence of the
 * document.
 */
public final class BoundaryWouldBeTest implements Words {
    public static void main(String[] args) {
        p19NoSuchLine();
        p19WithoutTheOnlyLine();
        p19ThoseBehindItOneLess();
        p19NotWhole();
        p19AsToldAnew();
        p20NoSuchLineOrPlace();
        p20ZeroWithoutOne();
        p20NotWhole();
        p20All32();
        p20AsToldAnew();
        p21NoSuchLine();
        p21NoneIfThereWereFaults();
        p21DeadAndTooLong();
        p21AsToldAnew();
        p22NoSuchLineThatIs();
        p22NumberIsNot();
        p22NoneIfThereAreFaults();
        p22FirstNamedException();
        p22AsToldAnew();
        p23OfNothing();
        p23WrapsAround();
        p23IfThereAreLines();
        nothingIsChanged();
        refusedCallsChangeNothing();
        Due.end();
    }

    private static DropflagMill mill(int[] kinds, int[]... lines) {
        return Due.mill(kinds, lines);
    }

    private static int[] kinds(int... kinds) {
        return kinds;
    }

    private static int[] line(int sort, int a, int b) {
        return new int[] {sort, a, b};
    }

    private static int[] line(int sort, int a) {
        return new int[] {sort, a, 0};
    }

    private static int[] line(int sort) {
        return new int[] {sort, 0, 0};
    }

    private static final int[] RICH_KINDS = {NUMBER, BOX, PAIR, SHARED, ALONE, COUNTED, COUNTED};

    /** LINES of all SORTS, each with its own a and b. */
    private static final int[][] RICH_LINES = {line(MAKE, 0, 2), line(MAKE, 3, -5), line(MAKE, 6, 8), line(MAKE, 15, 4),
        line(COPY, 18, 15), line(LOOP, 2), line(IF, 0), line(STEP, 0, -1), line(ELSE), line(PANIC), line(END), line(BORROW, 9, 7),
        line(COPY, 9, 9), line(READ, 9), line(END), line(LEND, 12, 8), line(MOVE, 12, 12), line(WRITE, 12, 3), line(HOLD, 15),
        line(LET_GO, 18), line(LINK, 18, 15), line(DROP, 18), line(MOVE, 3, 7), line(READ, 8), line(READ, 3)};

    private static DropflagMill rich() {
        return mill(RICH_KINDS, RICH_LINES);
    }

    /** RICH_LINES told anew: without the LINE if there is none to tell, otherwise with that in its place. */
    private static DropflagMill richBut(int line, int[] instead) {
        DropflagMill x = mill(RICH_KINDS);
        for (int at = 0; at < RICH_LINES.length; at++) {
            int[] each = at == line ? instead : RICH_LINES[at];
            if (each != null) {
                x.add(each[0], each[1], each[2]);
            }
        }
        return x;
    }

    /** A mill with 32 LINES: a MAKE of a BOX, READS of it, and a DROP as the last one. */
    private static DropflagMill full() {
        DropflagMill x = mill(kinds(BOX), line(MAKE, 0, 1));
        for (int at = 1; at < 31; at++) {
            x.add(READ, 0, 0);
        }
        x.add(DROP, 0, 0);
        return x;
    }

    /** Promise 19: "Throws IndexOutOfBoundsException if there is no such LINE": the END OF ALL is none. */
    private static void p19NoSuchLine() {
        DropflagMill x = mill(kinds(BOX), line(MAKE, 0, 1), line(READ, 0));
        for (int at : new int[] {MIN, -1, 2, 3, 32, MAX}) {
            Due.leavesAll(x, INDEX, "faultsWithout(" + at + ")", () -> x.faultsWithout(at));
        }
        Due.is("the first one: faultsWithout(0)", x.faultsWithout(0), 1);
        Due.is("the last one: faultsWithout(1)", x.faultsWithout(1), 0);
        DropflagMill y = full();
        Due.is("the first one of 32: faultsWithout(0)", y.faultsWithout(0), 31);
        Due.is("the last one of 32: faultsWithout(31)", y.faultsWithout(31), 0);
        Due.fails(y, INDEX, "faultsWithout(32)", () -> y.faultsWithout(32));
    }

    /** Promise 19: "how many FAULTS there would be without that": without the only LINE there are none at all. */
    private static void p19WithoutTheOnlyLine() {
        for (int sort : new int[] {READ, IF, ELSE, END, PANIC}) {
            DropflagMill x = mill(kinds(NUMBER), line(sort));
            Due.is(sort + ": many(2)", x.many(2), sort == PANIC ? 0 : 1);
            Due.is(sort + ": faultsWithout(0)", x.faultsWithout(0), 0);
            Due.is(sort + ": many(1)", x.many(1), 1);
        }
    }

    /** Promise 19: "without that (those behind it 1 less)": NEXT LINES, LOANS and what they lead to move along. */
    private static void p19ThoseBehindItOneLess() {
        DropflagMill x = mill(kinds(BOX, SHARED), line(MAKE, 0, 1), line(MAKE, 0, 2), line(BORROW, 3, 0), line(BORROW, 3, 0),
            line(LOOP, 2), line(READ, 3), line(PANIC), line(END), line(DROP, 0), line(DROP, 0));
        int[] due = {0, 0, 0, 0, 1, 0, 1, 1, 0, 0};
        for (int at = 0; at < due.length; at++) {
            Due.is("faultsWithout(" + at + ")", x.faultsWithout(at), due[at]);
        }
        x.put(6, READ, 3, 0);
        Due.is("many(2)", x.many(2), 1);
        int[] then = {1, 1, 1, 1, 1, 1, 1, 1, 0, 0};
        for (int at = 0; at < then.length; at++) {
            Due.is("without a PANIC: faultsWithout(" + at + ")", x.faultsWithout(at), then[at]);
        }
    }

    /** Promise 19, with term 5: "If it is not WHOLE, there is one FAULT alone". */
    private static void p19NotWhole() {
        DropflagMill x = mill(kinds(NUMBER), line(READ, 0), line(READ, 0), line(IF, 0), line(READ, 0), line(END));
        Due.is("many(2)", x.many(2), 4);
        Due.is("without the IF: faultsWithout(2)", x.faultsWithout(2), 1);
        Due.is("without the END: faultsWithout(4)", x.faultsWithout(4), 1);
        Due.is("faultsWithout(0)", x.faultsWithout(0), 3);
        x.add(END, 0, 0);
        Due.is("not WHOLE: many(2)", x.many(2), 1);
        Due.is("WHOLE again: faultsWithout(5)", x.faultsWithout(5), 4);
        Due.is("WHOLE again: faultsWithout(4)", x.faultsWithout(4), 4);
        Due.is("not WHOLE still: faultsWithout(0)", x.faultsWithout(0), 1);
    }

    /** Promise 19: "how many FAULTS there would be without that": as many as if it had never been told. */
    private static void p19AsToldAnew() {
        DropflagMill x = rich();
        int most = 0;
        for (int at = 0; at < RICH_LINES.length; at++) {
            int due = richBut(at, null).many(2);
            most = Math.max(most, due);
            Due.is("faultsWithout(" + at + ")", x.faultsWithout(at), due);
        }
        Due.is("many(2)", x.many(2), 0);
        Due.is("without the MAKE of the PAIR: the most FAULTS", most, 4);
        // each LINE behind keeps its a and its b
        int[] kinds = kinds(BOX, BOX, BOX, SHARED, PAIR);
        DropflagMill y = mill(kinds, line(MAKE, 0, 1), line(MAKE, 3, 2), line(READ, 0), line(MOVE, 6, 0), line(READ, 6),
            line(BORROW, 9, 6), line(MAKE, 12, 1), line(READ, 9));
        int[] due = {2, 0, 0, 2, 0, 1, 0, 0};
        for (int at = 0; at < due.length; at++) {
            Due.is("faultsWithout(" + at + ") of few", y.faultsWithout(at), due[at]);
        }
    }

    /** Promise 20: "Throws IndexOutOfBoundsException if there is no such LINE, or PLACE that is OWNED". */
    private static void p20NoSuchLineOrPlace() {
        DropflagMill x = mill(kinds(NUMBER, BOX, PAIR, SHARED, ALONE, COUNTED), line(MAKE, 3, 1), line(MAKE, 6, 1));
        for (int at : new int[] {MIN, -1, 3, 4, 32, 33, MAX}) {
            Due.fails(x, INDEX, "couldDrop(" + at + ", 3)", () -> x.couldDrop(at, 3));
        }
        for (int place : new int[] {MIN, -3, -1, 0, 1, 2, 4, 5, 9, 10, 12, 14, 16, 17, 18, 24, MAX}) {
            Due.fails(x, INDEX, "couldDrop(0, " + place + ")", () -> x.couldDrop(0, place));
            Due.fails(x, INDEX, "couldDrop(2, " + place + ")", () -> x.couldDrop(2, place));
        }
        int[] owned = {3, 6, 7, 8, 15};
        int[] due = {0, 0, 0, 0, 1};
        for (int k = 0; k < owned.length; k++) {
            Due.is("the first LINE: couldDrop(0, " + owned[k] + ")", x.couldDrop(0, owned[k]), 1);
            Due.is("the END OF ALL: couldDrop(2, " + owned[k] + ")", x.couldDrop(2, owned[k]), due[k]);
        }
    }

    /** Promise 20: "which FAULT a DROP of that there would have ..; 0 without one": 0 to 3, and 0 where it is DEAD. */
    private static void p20ZeroWithoutOne() {
        DropflagMill x = mill(kinds(NUMBER, BOX, SHARED), line(MAKE, 0, 1), line(IF, 0), line(MAKE, 3, 1), line(END),
            line(MAKE, 3, 2), line(BORROW, 6, 3), line(READ, 6), line(PANIC), line(READ, 0));
        int[] due = {1, 1, 1, 0, 2, 0, 3, 0, 0, 0};
        for (int at = 0; at < due.length; at++) {
            Due.is("couldDrop(" + at + ", 3)", x.couldDrop(at, 3), due[at]);
        }
        // FAULTS of other LINES do not count
        DropflagMill y = mill(kinds(BOX, BOX), line(READ, 3), line(MAKE, 0, 1), line(READ, 3));
        Due.is("many(2)", y.many(2), 2);
        Due.is("ahead of all: couldDrop(0, 0)", y.couldDrop(0, 0), 1);
        Due.is("couldDrop(1, 0)", y.couldDrop(1, 0), 1);
        Due.is("couldDrop(2, 0)", y.couldDrop(2, 0), 0);
        Due.is("couldDrop(3, 0)", y.couldDrop(3, 0), 0);
        DropflagMill z = mill(kinds(BOX));
        Due.is("no LINES: couldDrop(0, 0)", z.couldDrop(0, 0), 1);
        Due.fails(z, INDEX, "no LINES: couldDrop(1, 0)", () -> z.couldDrop(1, 0));
    }

    /** Promise 20: "or if it is not WHOLE". */
    private static void p20NotWhole() {
        for (int sort : new int[] {ELSE, END, IF, LOOP}) {
            DropflagMill x = mill(kinds(NUMBER, BOX), line(MAKE, 0, 1));
            Due.is("WHOLE: couldDrop(1, 3)", x.couldDrop(1, 3), 1);
            x.add(sort, sort == LOOP ? 1 : 0, 0);
            for (int at = 0; at <= 2; at++) {
                Due.is(sort + ": couldDrop(" + at + ", 3)", x.couldDrop(at, 3), 0);
            }
        }
    }

    /** Promise 20: "(ahead of that LINE, all others 1 more)": it would be the 33rd one. */
    private static void p20All32() {
        DropflagMill x = full();
        Due.is("ahead of all: couldDrop(0, 0)", x.couldDrop(0, 0), 1);
        for (int at = 1; at <= 31; at++) {
            Due.is("couldDrop(" + at + ", 0)", x.couldDrop(at, 0), 0);
        }
        Due.is("the END OF ALL: couldDrop(32, 0)", x.couldDrop(32, 0), 1);
        Due.fails(x, INDEX, "couldDrop(33, 0)", () -> x.couldDrop(33, 0));
        Due.is("many(1)", x.many(1), 32);
        Due.is("many(2)", x.many(2), 0);
        DropflagMill y = mill(kinds(BOX, SHARED), line(MAKE, 0, 1));
        for (int at = 1; at <= 15; at++) {
            y.add(BORROW, 3, 0);
        }
        for (int at = 16; at <= 29; at++) {
            y.add(READ, 0, 0);
        }
        y.add(BORROW, 3, 0);
        y.add(READ, 3, 0);
        Due.is("16 LOANS: many(3)", y.many(3), 16);
        Due.is("of the 16th LOAN: couldDrop(31, 0)", y.couldDrop(31, 0), 3);
        Due.is("ahead of it: couldDrop(30, 0)", y.couldDrop(30, 0), 0);
        Due.is("behind all: couldDrop(32, 0)", y.couldDrop(32, 0), 0);
    }

    /** Promise 20: "which FAULT a DROP of that there would have (ahead of that LINE, all others 1 more)". */
    private static void p20AsToldAnew() {
        DropflagMill x = rich();
        int[] seen = new int[6];
        for (int at = 0; at <= RICH_LINES.length; at++) {
            for (int place : new int[] {3, 6, 7, 8, 15, 18}) {
                DropflagMill y = mill(RICH_KINDS);
                for (int k = 0; k < at; k++) {
                    y.add(RICH_LINES[k][0], RICH_LINES[k][1], RICH_LINES[k][2]);
                }
                y.add(DROP, place, 0);
                for (int k = at; k < RICH_LINES.length; k++) {
                    y.add(RICH_LINES[k][0], RICH_LINES[k][1], RICH_LINES[k][2]);
                }
                int due = 0;
                for (int k = 0; k < y.many(2); k++) {
                    due = y.fault(k, 1) == at ? y.fault(k, 0) : due;
                }
                seen[due]++;
                Due.is("couldDrop(" + at + ", " + place + ")", x.couldDrop(at, place), due);
            }
        }
        for (int fault = 0; fault <= 3; fault++) {
            Due.is("some with " + fault, seen[fault] > 0, true);
        }
        // a LINE behind keeps its b: it is what USES the BORROW
        DropflagMill z = mill(kinds(BOX, SHARED, SHARED), line(MAKE, 0, 1), line(BORROW, 3, 0), line(READ, 0), line(COPY, 6, 3));
        int[] due = {1, 0, 3, 3, 0};
        for (int at = 0; at < due.length; at++) {
            Due.is("couldDrop(" + at + ", 0)", z.couldDrop(at, 0), due[at]);
        }
    }

    /** Promise 21: "Throws IndexOutOfBoundsException if there is no such LINE". */
    private static void p21NoSuchLine() {
        DropflagMill x = mill(kinds(COUNTED), line(MAKE, 0, 1), line(LINK, 0, 0));
        for (int at : new int[] {MIN, -1, 2, 3, 32, MAX}) {
            Due.leavesAll(x, INDEX, "leakedBy(" + at + ")", () -> x.leakedBy(at));
        }
        Due.is("the first one: leakedBy(0)", x.leakedBy(0), 0);
        Due.is("the last one: leakedBy(1)", x.leakedBy(1), 0);
        x.add(READ, 0, 0);
        Due.is("behind the LINK: leakedBy(2)", x.leakedBy(2), 1);
        DropflagMill y = full();
        Due.is("the last one of 32: leakedBy(31)", y.leakedBy(31), 0);
        Due.fails(y, INDEX, "leakedBy(32)", () -> y.leakedBy(32));
    }

    /** Promise 21: "NONE, if there were FAULTS then": those that the PANIC takes away do not count. */
    private static void p21NoneIfThereWereFaults() {
        DropflagMill x = mill(kinds(BOX), line(MAKE, 0, 1), line(DROP, 0), line(READ, 0), line(READ, 0));
        Due.is("many(2)", x.many(2), 2);
        int[] due = {0, 0, 0, NONE};
        for (int at = 0; at < due.length; at++) {
            Due.is("leakedBy(" + at + ")", x.leakedBy(at), due[at]);
        }
        DropflagMill y = mill(kinds(NUMBER), line(MAKE, 0, 1), line(IF, 0), line(ELSE), line(END), line(LOOP, 1), line(END));
        int[] then = {0, NONE, 0, NONE, NONE, NONE};
        for (int at = 0; at < then.length; at++) {
            Due.is("not WHOLE then: leakedBy(" + at + ")", y.leakedBy(at), then[at]);
        }
        y.add(END, 0, 0);
        Due.is("not WHOLE: leakedBy(0)", y.leakedBy(0), NONE);
        Due.is("WHOLE then: leakedBy(6)", y.leakedBy(6), 0);
    }

    /** Promise 21: "what LEAKED would be": a DEAD LINE changes nothing; ABORTS and too many STEPS leak, too. */
    private static void p21DeadAndTooLong() {
        DropflagMill x = mill(kinds(COUNTED, BOX), line(MAKE, 0, 1), line(LINK, 0, 0), line(PANIC), line(READ, 0));
        Due.is("DEAD: leakedBy(3)", x.leakedBy(3), 1);
        DropflagMill y = mill(kinds(BOX, BOX, BOX), line(MAKE, 0, 1), line(MAKE, 3, -1), line(MAKE, 6, -1), line(READ, 0));
        Due.is("ABORTED: leakedBy(3)", y.leakedBy(3), 2);
        Due.is("ABORTED later: leakedBy(2)", y.leakedBy(2), 1);
        DropflagMill z = mill(kinds(BOX, BOX), line(MAKE, 0, 1), line(LOOP, 4), line(LOOP, 4), line(LOOP, 4), line(LOOP, 4),
            line(MAKE, 3, 1), line(READ, 3), line(END), line(END), line(END), line(END), line(READ, 0));
        Due.is("too many STEPS: leakedBy(11)", z.leakedBy(11), 2);
        Due.is("just one of them: leakedBy(5)", z.leakedBy(5), 0);
    }

    /** Promise 21: "what LEAKED would be, if that LINE was a PANIC": as if it had been told so. */
    private static void p21AsToldAnew() {
        DropflagMill x = rich();
        for (int at = 0; at < RICH_LINES.length; at++) {
            DropflagMill y = richBut(at, line(PANIC));
            boolean hasFaults = y.many(2) > 0;
            if (!hasFaults) {
                y.run();
            }
            Due.is("leakedBy(" + at + ")", x.leakedBy(at), hasFaults ? NONE : y.ofRun(7));
        }
    }

    /** Promise 22: "Throws IndexOutOfBoundsException if there is no such LINE that is" a MAKE or WRITE. */
    private static void p22NoSuchLineThatIs() {
        int[] kinds = kinds(NUMBER, BOX, SHARED, ALONE, COUNTED);
        int[][] lines = {line(MOVE, 3, 3), line(COPY, 0, 0), line(BORROW, 6, 0), line(LEND, 9, 0), line(READ, 0), line(DROP, 3),
            line(IF, 0), line(ELSE), line(LOOP, 2), line(END), line(LINK, 12, 12), line(HOLD, 12), line(LET_GO, 12), line(PANIC),
            line(STEP, 0, 1)};
        for (int[] each : lines) {
            DropflagMill x = mill(kinds, line(MAKE, 0, 1), line(MAKE, 3, 1), line(MAKE, 12, 1), each);
            for (int number : new int[] {-100, -99, 0, 99, 100}) {
                String call = "outcomeWith(3, " + number + ") of " + java.util.Arrays.toString(each);
                Due.fails(x, INDEX, call, () -> x.outcomeWith(3, number));
            }
        }
        DropflagMill y = mill(kinds, line(MAKE, 3, 1), line(WRITE, 3, -1));
        for (int at : new int[] {MIN, -1, 2, 3, 32, MAX}) {
            Due.leavesAll(y, INDEX, "outcomeWith(" + at + ", 0)", () -> y.outcomeWith(at, 0));
        }
        Due.is("the first one: outcomeWith(0, 0)", y.outcomeWith(0, 0), PANICKED);
        Due.is("the last one: outcomeWith(1, 0)", y.outcomeWith(1, 0), ENDED);
        y.cut();
        Due.fails(y, INDEX, "one that was cut: outcomeWith(1, 0)", () -> y.outcomeWith(1, 0));
    }

    /** Promise 22: "Throws IllegalArgumentException if number is not -99 to 99". */
    private static void p22NumberIsNot() {
        DropflagMill x = mill(kinds(BOX, PAIR), line(MAKE, 0, 5), line(WRITE, 0, 6), line(MAKE, 3, 7));
        for (int number : new int[] {MIN, MIN + 1, -100, 100, 101, MAX}) {
            Due.leavesAll(x, ARGUMENT, "outcomeWith(0, " + number + ")", () -> x.outcomeWith(0, number));
            Due.leavesAll(x, ARGUMENT, "outcomeWith(1, " + number + ")", () -> x.outcomeWith(1, number));
        }
        int[] numbers = {-99, -98, -1, 0, 6, 98, 99};
        for (int number : numbers) {
            Due.is("a MAKE: outcomeWith(0, " + number + ")", x.outcomeWith(0, number), ENDED);
            Due.is("a WRITE: outcomeWith(1, " + number + ")", x.outcomeWith(1, number), number < 0 ? PANICKED : ENDED);
            Due.is("a PAIR: outcomeWith(2, " + number + ")", x.outcomeWith(2, number),
                number < -1 ? ABORTED : number < 0 ? PANICKED : ENDED);
        }
        Due.is("ofLine(1, 2)", x.ofLine(1, 2), 6);
    }

    /** Promise 22: "NONE, if there are FAULTS". */
    private static void p22NoneIfThereAreFaults() {
        DropflagMill x = mill(kinds(BOX), line(MAKE, 0, 5), line(DROP, 0));
        Due.is("without: outcomeWith(0, -5)", x.outcomeWith(0, -5), PANICKED);
        x.add(READ, 0, 0);
        Due.is("with one: outcomeWith(0, -5)", x.outcomeWith(0, -5), NONE);
        Due.fails(x, ARGUMENT, "with one: outcomeWith(0, 100)", () -> x.outcomeWith(0, 100));
        x.put(2, LOOP, 1, 0);
        Due.is("not WHOLE: outcomeWith(0, -5)", x.outcomeWith(0, -5), NONE);
        x.put(2, PANIC, 0, 0);
        x.add(WRITE, 0, 1);
        Due.is("a DEAD LINE has none: outcomeWith(3, 5)", x.outcomeWith(3, 5), PANICKED);
        x.put(0, WRITE, 0, 1);
        Due.is("with its own: outcomeWith(0, 5)", x.outcomeWith(0, 5), NONE);
    }

    /** "If several exceptions apply, the one that is named first is thrown": promise 22. */
    private static void p22FirstNamedException() {
        DropflagMill x = mill(kinds(BOX), line(MAKE, 0, 5), line(READ, 0));
        for (int at : new int[] {-1, 1, 2, 3}) {
            Due.leavesAll(x, INDEX, "outcomeWith(" + at + ", 100)", () -> x.outcomeWith(at, 100));
            Due.leavesAll(x, INDEX, "outcomeWith(" + at + ", -100)", () -> x.outcomeWith(at, -100));
        }
    }

    /** Promise 22: "the OUTCOME of a RUN with that as its b": as if it had been told so. */
    private static void p22AsToldAnew() {
        DropflagMill x = rich();
        int[] seen = new int[4];
        for (int at : new int[] {0, 1, 2, 3, 17}) {
            for (int number : new int[] {-99, -2, -1, 0, 1, 2, 3, 99}) {
                int due = richBut(at, line(RICH_LINES[at][0], RICH_LINES[at][1], number)).run();
                seen[due]++;
                Due.is("outcomeWith(" + at + ", " + number + ")", x.outcomeWith(at, number), due);
            }
        }
        for (int outcome = ENDED; outcome <= ABORTED; outcome++) {
            Due.is("some with " + outcome, seen[outcome] > 0, true);
        }
    }

    private static BigInteger with(BigInteger d, long v) {
        return d.multiply(BigInteger.valueOf(31)).add(BigInteger.valueOf(v));
    }

    /** Promise 23, of a mill without anything: 7 answers of many(), 10 of ofRun(), all 0, and nothing else. */
    private static void p23OfNothing() {
        BigInteger d = BigInteger.valueOf(58135);
        for (int k = 0; k < 17; k++) {
            d = with(d, 0);
        }
        DropflagMill x = new DropflagMill();
        Due.is("digest()", x.digest(), d.longValue());
        Due.is("digest() again", x.digest(), d.longValue());
        x.run();
        BigInteger then = BigInteger.valueOf(58135);
        for (int v : new int[] {0, 0, 0, 0, 0, 0, 0, 0, 0, 0, 0, 0, 0, 0, 0, NONE, 1}) {
            then = with(then, v);
        }
        Due.is("behind a RUN: digest()", x.digest(), then.longValue());
    }

    /** Promise 23: "d becomes d * 31 + v, which wraps around as a 64-bit integer (a boolean as 1 or 0)". */
    private static void p23WrapsAround() {
        DropflagMill x = mill(kinds(NUMBER, PAIR, SHARED, ALONE, COUNTED), line(MAKE, 0, 1), line(MAKE, 3, -1), line(IF, 0),
            line(MAKE, 12, 9), line(END), line(BORROW, 6, 4), line(LEND, 9, 0), line(READ, 6), line(READ, 9), line(PANIC),
            line(READ, 0));
        Due.is("ahead of a RUN: digest()", x.digest(), told(x));
        Due.is("run()", x.run(), ABORTED);
        Due.is("behind a RUN: digest()", x.digest(), told(x));
        x.put(9, WRITE, 0, 3);
        x.put(10, READ, 9, 0);
        Due.is("with a FAULT: many(2)", x.many(2), 1);
        Due.is("with a FAULT: digest()", x.digest(), told(x));
        x.put(9, ELSE, 0, 0);
        Due.is("not WHOLE: digest()", x.digest(), told(x));
    }

    /** Promise 23: "of all that is kept told() of 0 to 2; if there are LINES, leakedBy() of the last one". */
    private static void p23IfThereAreLines() {
        DropflagMill x = mill(kinds(COUNTED), line(MAKE, 0, 1), line(LINK, 0, 0), line(READ, 0));
        Due.is("run()", x.run(), ENDED);
        Due.is("leakedBy(2)", x.leakedBy(2), 1);
        Due.is("3 LINES: digest()", x.digest(), told(x));
        x.cut();
        x.cut();
        x.cut();
        Due.is("no LINES any more: digest()", x.digest(), told(x));
        x.add(PANIC, 0, 0);
        Due.is("one LINE: digest()", x.digest(), told(x));
        // what is told behind the 60th does not count
        DropflagMill y = mill(kinds(NUMBER), line(MAKE, 0, 1), line(LOOP, 4), line(LOOP, 4), line(READ, 0), line(READ, 0),
            line(READ, 0), line(READ, 0), line(END), line(END));
        Due.is("run()", y.run(), ENDED);
        Due.is("ofRun(2)", y.ofRun(2), 64);
        Due.is("64 told: digest()", y.digest(), told(y));
        DropflagMill full = full();
        full.run();
        Due.is("32 LINES: digest()", full.digest(), told(full));
    }

    /** The digest by the words of the document, in whole numbers without bounds, cut to 64 bits at last. */
    private static long told(DropflagMill x) {
        BigInteger d = BigInteger.valueOf(58135);
        int lines = x.many(1);
        for (int what = 0; what <= 6; what++) d = with(d, x.many(what));
        for (int v = 0; v < x.many(0); v++) {
            for (int what = 0; what <= 3; what++) d = with(d, x.ofVariable(v, what));
        }
        for (int at = 0; at < lines; at++) {
            for (int what = 3; what <= 5; what++) d = with(d, x.ofLine(at, what));
            for (int v = 0; v < x.many(0); v++) {
                d = with(with(d, x.state(at, 3 * v)), x.inTheWay(at, 3 * v));
                int kind = x.ofVariable(v, 0);
                if (kind == SHARED || kind == ALONE) {
                    d = with(with(d, x.holds(at, v)), x.isWanted(at, v) ? 1 : 0);
                }
            }
            d = with(d, x.faultsWithout(at));
        }
        for (int loan = 0; loan < x.many(3); loan++) {
            for (int what = 0; what <= 3; what++) d = with(d, x.ofLoan(loan, what));
        }
        for (int k = 0; k < x.many(2); k++) {
            for (int what = 0; what <= 4; what++) d = with(d, x.fault(k, what));
        }
        for (int what = 0; what <= 9; what++) d = with(d, x.ofRun(what));
        for (int k = 0; k < Math.min(60, x.ofRun(2)); k++) {
            for (int what = 0; what <= 2; what++) d = with(d, x.told(k, what));
        }
        return (lines > 0 ? with(d, x.leakedBy(lines - 1)) : d).longValue();
    }

    /** Ahead of promise 19: "what would be (nothing is changed)": the program and the latest RUN stay. */
    private static void nothingIsChanged() {
        DropflagMill x = mill(kinds(BOX, SHARED, NUMBER), line(MAKE, 0, -4), line(MAKE, 6, 1), line(BORROW, 3, 0), line(READ, 3),
            line(WRITE, 0, -7));
        x.run();
        String before = Due.all(x);
        for (int at = 0; at < 5; at++) {
            x.faultsWithout(at);
            Due.same("all behind faultsWithout(" + at + ")", Due.all(x), before);
            x.leakedBy(at);
            Due.same("all behind leakedBy(" + at + ")", Due.all(x), before);
        }
        for (int at = 0; at <= 5; at++) {
            x.couldDrop(at, 0);
            Due.same("all behind couldDrop(" + at + ", 0)", Due.all(x), before);
        }
        for (int at : new int[] {0, 1, 4}) {
            Due.is("outcomeWith(" + at + ", 3)", x.outcomeWith(at, 3), at == 4 ? ENDED : PANICKED);
            Due.same("all behind outcomeWith(" + at + ", 3)", Due.all(x), before);
        }
        x.digest();
        Due.same("all behind digest()", Due.all(x), before);
    }

    /** "A method that throws an exception changes nothing": promises 19 to 22, behind a RUN. */
    private static void refusedCallsChangeNothing() {
        DropflagMill x = mill(kinds(PAIR, NUMBER), line(MAKE, 0, -2), line(MAKE, 3, 8), line(READ, 3));
        x.run();
        Due.leavesAll(x, INDEX, "faultsWithout(3)", () -> x.faultsWithout(3));
        Due.leavesAll(x, INDEX, "couldDrop(4, 0)", () -> x.couldDrop(4, 0));
        Due.leavesAll(x, INDEX, "couldDrop(0, 3)", () -> x.couldDrop(0, 3));
        Due.leavesAll(x, INDEX, "leakedBy(3)", () -> x.leakedBy(3));
        Due.leavesAll(x, INDEX, "outcomeWith(2, 0)", () -> x.outcomeWith(2, 0));
        Due.leavesAll(x, ARGUMENT, "outcomeWith(1, 100)", () -> x.outcomeWith(1, 100));
        Due.is("the latest RUN: ofRun(0)", x.ofRun(0), ABORTED);
        Due.is("the latest RUN: ofRun(9)", x.ofRun(9), 1);
        Due.is("the latest RUN: meanRead()", x.meanRead(), 8.0);
    }
}
