/**
 * Boundary cases of what is checked ahead: the terms 1, 3, 4 and 5, and the promises 7 to 13 and 17. Each test
 * names the promise, or the term, and the sentence of the document.
 */
public final class BoundaryCheckTest implements Words {
    public static void main(String[] args) {
        t1FirstAndLastVariable();
        t1Meeting();
        t3NoneHasAheadOfTheFirstLine();
        t3BothMayBe();
        t3RoundALoop();
        t3MovesToTheSamePlace();
        t4LoansAreNumberedByLines();
        t4ThatLoanAlone();
        t4ThoseFromAllWays();
        t4UsedFirst();
        t4WantedWithIt();
        t5DeadLinesHaveNoFaults();
        t5OneFaultAtMost();
        t5FirstLeafThatMayNotHave();
        t5WantedBehind();
        t5GivenByThisLine();
        t5SmallestLoan();
        t5LoansThatAreNeither();
        t5OneFaultAloneIfNotWhole();
        t5LastUse();
        t5FlagsAtTheEdges();
        t5FlagsOfNoDeadLine();
        p7NoSuchLineOrPlace();
        p7Dead();
        p7AllLeavesOrOne();
        p8NoSuchLineOrBorrow();
        p8DeadOrNotWhole();
        p9NoSuchLineOrBorrow();
        p9NotWhole();
        p10NoSuchLineOrPlace();
        p10NoneWithoutOne();
        p11NoSuchLoan();
        p11WhatIsNot0To3();
        p12NoSuchFault();
        p12WhatIsNot0To4();
        p12NoneForOthers();
        p13NoSuchVariable();
        p13WhatIsNot0To3();
        p13ALineCountsOnce();
        p17WhatIsNot0To6();
        p17NotWhole();
        p17MostWanted();
        refusedCallsChangeNothing();
        Due.end();
    }

    private static DropflagMill mill(int[] kinds, int[]... lines) {
        return Due.mill(kinds, lines);
    }

    private static int[] kinds(int... kinds) {
        return kinds;
    }

    private static int[] line(int sort, int a, int b) {
        return new int[] {sort, a, b};
    }

    private static int[] line(int sort, int a) {
        return new int[] {sort, a, 0};
    }

    private static int[] line(int sort) {
        return new int[] {sort, 0, 0};
    }

    private static void faultIs(DropflagMill x, int k, int... facts) {
        for (int what = 0; what <= 4; what++) {
            Due.is("fault(" + k + ", " + what + ")", x.fault(k, what), facts[what]);
        }
    }

    /** Each {FAULT, LINE, PLACE, LOAN, LAST USE}, and no other ones. */
    private static void faultsAre(String program, DropflagMill x, int[]... faults) {
        Due.is("faults of " + program, x.many(2), faults.length);
        for (int k = 0; k < faults.length && k < x.many(2); k++) {
            faultIs(x, k, faults[k]);
        }
    }

    private static void statesAre(DropflagMill x, int place, int... states) {
        for (int line = 0; line < states.length; line++) {
            Due.is("state(" + line + ", " + place + ")", x.state(line, place), states[line]);
        }
    }

    /** Term 1: "VARIABLES: at most 8, numbered from 0": the first and the last one as what is lent and as a BORROW. */
    private static void t1FirstAndLastVariable() {
        for (int borrow = 0; borrow <= 7; borrow += 7) {
            int of = 7 - borrow;
            int[] kinds = kinds(PAIR, BOX, BOX, BOX, BOX, BOX, BOX, PAIR);
            kinds[borrow] = ALONE;
            int place = 3 * of + 2;
            DropflagMill x = mill(kinds, line(MAKE, 3 * of, 1), line(LEND, 3 * borrow, place), line(READ, 3 * of),
                line(READ, 3 * borrow));
            Due.is("holds(2, " + borrow + ")", x.holds(2, borrow), 1);
            Due.is("isWanted(2, " + borrow + ")", x.isWanted(2, borrow), true);
            Due.is("inTheWay(2, " + place + ")", x.inTheWay(2, place), 0);
            Due.is("the other PART: inTheWay(2, " + (place - 1) + ")", x.inTheWay(2, place - 1), NONE);
            Due.is("ofLoan(0, 3)", x.ofLoan(0, 3), 3);
            faultsAre("a READ of what is lent", x, new int[] {4, 2, 3 * of, 0, 3});
            DropflagMill y = mill(kinds, line(LOOP, 1), line(READ, 3 * of + 2), line(MAKE, 3 * of, 1), line(END));
            faultsAre("a READ ahead of a MAKE in a LOOP", y, new int[] {2, 1, place, NONE, NONE});
            Due.is("FLAGS of both PARTS: ofVariable(" + of + ", 1)", y.ofVariable(of, 1), 3);
            Due.is("many(4)", y.many(4), 2);
        }
    }

    /** Term 1: "Two PLACES MEET, if they are the same, or one is a PART of the other one": not next to one another. */
    private static void t1Meeting() {
        // 0 PAIR (1, 2), 3 PAIR (4, 5), 6 BOX, 9 NUMBER, 12 SHARED
        int[] all = {0, 1, 2, 3, 4, 5, 6, 9};
        for (int of : all) {
            DropflagMill x = mill(kinds(PAIR, PAIR, BOX, NUMBER, SHARED), line(MAKE, 0, 1), line(MAKE, 3, 1),
                line(MAKE, 6, 1), line(MAKE, 9, 1), line(BORROW, 12, of), line(READ, 12));
            for (int place : all) {
                boolean isPair = place == 0 || place == 3;
                boolean isPartOf = of / 3 == place / 3 && of < 6 && (isPair || of == 0 || of == 3);
                Due.is("loan of " + of + ": inTheWay(5, " + place + ")", x.inTheWay(5, place),
                    place == of || isPartOf ? 0 : NONE);
            }
            Due.is("the borrow itself: inTheWay(5, 12)", x.inTheWay(5, 12), NONE);
        }
    }

    /** Term 3: "as ways come there from the first LINE, ahead of which none HAS", also with no LINES at all. */
    private static void t3NoneHasAheadOfTheFirstLine() {
        int[] kinds = kinds(NUMBER, BOX, PAIR, SHARED, ALONE, COUNTED, NUMBER, PAIR);
        DropflagMill x = mill(kinds);
        DropflagMill y = mill(kinds, line(LOOP, 4), line(MAKE, 0, 1), line(MAKE, 6, 1), line(END));
        for (int place : new int[] {0, 3, 6, 7, 8, 9, 12, 15, 18, 21, 22, 23}) {
            Due.is("no lines: state(0, " + place + ")", x.state(0, place), 2);
            Due.is("ahead of the first line: state(0, " + place + ")", y.state(0, place), 2);
        }
        faultsAre("a READ as the first line", mill(kinds(BOX), line(READ, 0)), new int[] {1, 0, 0, NONE, NONE});
    }

    /** Term 3: "each LEAF can HAVE something, or NOT, or both may be". */
    private static void t3BothMayBe() {
        DropflagMill x = mill(kinds(NUMBER, BOX), line(MAKE, 0, 1), line(IF, 0), line(MAKE, 3, 1), line(END));
        statesAre(x, 3, 2, 2, 2, 3, 3);
        x.put(3, ELSE, 0, 0);
        x.add(MAKE, 3, 2);
        x.add(END, 0, 0);
        statesAre(x, 3, 2, 2, 2, 1, 2, 1, 1);
        x.put(4, PANIC, 0, 0);
        statesAre(x, 3, 2, 2, 2, 1, 2, 1, 1);
        x.put(2, DROP, 3, 0);
        Due.is("a DROP of what is not there: state(5, 3)", x.state(5, 3), 2);
    }

    /** Term 3, with term 2: a LOOP has its way back, and none past it, that goes round no time. */
    private static void t3RoundALoop() {
        DropflagMill x = mill(kinds(BOX), line(MAKE, 0, 1), line(LOOP, 1), line(READ, 0), line(DROP, 0), line(END),
            line(MAKE, 0, 2));
        statesAre(x, 0, 2, 1, 3, 3, 2, 2, 1);
        faultsAre("a DROP in a LOOP", x, new int[] {2, 2, 0, NONE, NONE}, new int[] {2, 3, 0, NONE, NONE});
        DropflagMill y = mill(kinds(BOX), line(LOOP, 1), line(MAKE, 0, 1), line(END), line(READ, 0));
        statesAre(y, 0, 2, 3, 1, 1, 1);
        faultsAre("a MAKE in a LOOP", y);
        DropflagMill z = mill(kinds(BOX), line(LOOP, 4), line(END), line(MAKE, 0, 1));
        statesAre(z, 0, 2, 2, 2, 1);
        // what comes with the way back alone goes on past the LINES behind the LOOP
        int[] kinds = kinds(BOX, NUMBER);
        DropflagMill made = mill(kinds, line(MAKE, 3, 1), line(LOOP, 2), line(READ, 3), line(READ, 3), line(READ, 3), line(MAKE, 0, 1),
            line(END));
        statesAre(made, 0, 2, 2, 3, 3, 3, 3, 1, 1);
        DropflagMill dropped = mill(kinds, line(MAKE, 0, 1), line(MAKE, 3, 1), line(LOOP, 2), line(READ, 3), line(READ, 3),
            line(READ, 3), line(DROP, 0), line(END));
        statesAre(dropped, 0, 2, 1, 1, 3, 3, 3, 3, 2, 2);
    }

    /** Term 3: "MOVE lets b .. NOT have any more; then .. let a .. HAVE something": also if both are the same. */
    private static void t3MovesToTheSamePlace() {
        DropflagMill x = mill(kinds(BOX, PAIR, COUNTED, NUMBER, ALONE), line(MAKE, 0, 1), line(MOVE, 0, 0),
            line(MAKE, 3, 1), line(MOVE, 3, 3), line(MOVE, 5, 5), line(MAKE, 6, 1), line(MOVE, 6, 6), line(COPY, 6, 6),
            line(MAKE, 9, 1), line(LEND, 12, 9), line(MOVE, 12, 12), line(MOVE, 5, 4));
        Due.is("state(2, 0)", x.state(2, 0), 1);
        Due.is("state(5, 3)", x.state(5, 3), 1);
        Due.is("state(8, 6)", x.state(8, 6), 1);
        Due.is("state(11, 12)", x.state(11, 12), 1);
        Due.is("state(12, 4)", x.state(12, 4), 2);
        Due.is("state(12, 5)", x.state(12, 5), 1);
        faultsAre("MOVES to the same PLACE", x);
    }

    /** Term 4: "LOANS are numbered as their BORROW or LEND comes by LINES": anew, as LINES are put or cut. */
    private static void t4LoansAreNumberedByLines() {
        DropflagMill x = mill(kinds(NUMBER, SHARED, ALONE), line(MAKE, 0, 1), line(BORROW, 3, 0), line(LEND, 6, 0),
            line(BORROW, 3, 0));
        Due.is("ofLoan(2, 0)", x.ofLoan(2, 0), 3);
        x.put(1, READ, 0, 0);
        Due.is("ofLoan(0, 0)", x.ofLoan(0, 0), 2);
        Due.is("ofLoan(0, 2)", x.ofLoan(0, 2), 1);
        Due.is("ofLoan(1, 0)", x.ofLoan(1, 0), 3);
        Due.fails(x, INDEX, "ofLoan(2, 0)", () -> x.ofLoan(2, 0));
        x.put(0, LEND, 6, 0);
        Due.is("the first line: ofLoan(0, 0)", x.ofLoan(0, 0), 0);
        Due.is("dead, too: many(3)", x.many(3), 3);
        x.put(0, PANIC, 0, 0);
        Due.is("dead, too: many(3)", x.many(3), 2);
        Due.is("dead, too: ofLoan(1, 0)", x.ofLoan(1, 0), 3);
    }

    /** Term 4: "behind a BORROW or LEND to it, that LOAN alone; behind a COPY or MOVE to it, those of b". */
    private static void t4ThatLoanAlone() {
        DropflagMill x = mill(kinds(NUMBER, SHARED, SHARED, ALONE), line(MAKE, 0, 1), line(BORROW, 3, 0),
            line(BORROW, 3, 0), line(BORROW, 6, 0), line(COPY, 6, 3), line(COPY, 3, 3), line(LEND, 9, 0),
            line(MOVE, 9, 9), line(LEND, 9, 0));
        int[] first = {0, 0, 1, 2, 2, 2, 2, 2, 2, 2};
        int[] second = {0, 0, 0, 0, 4, 2, 2, 2, 2, 2};
        int[] third = {0, 0, 0, 0, 0, 0, 0, 8, 8, 16};
        for (int at = 0; at <= 9; at++) {
            Due.is("holds(" + at + ", 1)", x.holds(at, 1), first[at]);
            Due.is("holds(" + at + ", 2)", x.holds(at, 2), second[at]);
            Due.is("holds(" + at + ", 3)", x.holds(at, 3), third[at]);
        }
        DropflagMill y = mill(kinds(SHARED, SHARED, NUMBER), line(MAKE, 6, 1), line(BORROW, 3, 6), line(COPY, 3, 0));
        Due.is("a COPY of one that HOLDS none: holds(3, 1)", y.holds(3, 1), 0);
    }

    /** Term 4: "otherwise those from all ways": as many rounds of a LOOP as it takes, and those that say nothing new. */
    private static void t4ThoseFromAllWays() {
        // 7 SHARED, each with a LOAN of its own; in the LOOP each gets those of the next one, and the last a new one
        DropflagMill x = mill(kinds(SHARED, SHARED, SHARED, SHARED, SHARED, SHARED, SHARED, NUMBER), line(MAKE, 21, 1));
        for (int v = 0; v < 7; v++) {
            x.add(BORROW, 3 * v, 21);
        }
        x.add(LOOP, 1, 0);
        x.add(READ, 21, 0);
        for (int v = 0; v < 6; v++) {
            x.add(COPY, 3 * v, 3 * v + 3);
        }
        x.add(BORROW, 18, 21);
        x.add(END, 0, 0);
        for (int v = 0; v < 7; v++) {
            Due.is("ahead of the LOOP: holds(8, " + v + ")", x.holds(8, v), 1 << v);
            int all = 0xff & ~((1 << v) - 1);
            Due.is("in the LOOP: holds(9, " + v + ")", x.holds(9, v), all);
            Due.is("in the LOOP: holds(10, " + v + ")", x.holds(10, v), all);
            int behind = v == 6 ? 1 << 7 : 0xff & ~((1 << (v + 1)) - 1);
            Due.is("behind the LOOP: holds(18, " + v + ")", x.holds(18, v), behind);
        }
        // of two branches each has its own, and the END both
        DropflagMill y = mill(kinds(SHARED, NUMBER), line(MAKE, 3, 1), line(IF, 3), line(BORROW, 0, 3), line(ELSE), line(READ, 3),
            line(END), line(READ, 3));
        int[] due = {0, 0, 0, 1, 0, 1, 1, 1};
        for (int at = 0; at < due.length; at++) {
            Due.is("two branches: holds(" + at + ", 0)", y.holds(at, 0), due[at]);
        }
    }

    /** Term 4: "ahead of one that gives it something (a LINE that does both USES it first)". */
    private static void t4UsedFirst() {
        int[] kinds = kinds(NUMBER, SHARED, SHARED, ALONE);
        DropflagMill x = mill(kinds, line(MAKE, 0, 1), line(BORROW, 3, 0), line(COPY, 3, 3), line(BORROW, 3, 0));
        boolean[] due = {false, false, true, false, false};
        for (int at = 0; at <= 4; at++) {
            Due.is("isWanted(" + at + ", 1)", x.isWanted(at, 1), due[at]);
        }
        DropflagMill y = mill(kinds, line(MAKE, 0, 1), line(LEND, 9, 0), line(MOVE, 9, 9), line(LEND, 9, 0));
        for (int at = 0; at <= 4; at++) {
            Due.is("isWanted(" + at + ", 3)", y.isWanted(at, 3), due[at]);
        }
        DropflagMill z = mill(kinds, line(MAKE, 0, 1), line(BORROW, 3, 0), line(COPY, 6, 3), line(READ, 6));
        Due.is("given to another one: isWanted(2, 1)", z.isWanted(2, 1), true);
        Due.is("isWanted(3, 1)", z.isWanted(3, 1), false);
        Due.is("isWanted(2, 2)", z.isWanted(2, 2), false);
        Due.is("isWanted(3, 2)", z.isWanted(3, 2), true);
    }

    /** Term 4: "WANTED ahead of a LINE, if a way from there (with it) comes to a LINE that USES it". */
    private static void t4WantedWithIt() {
        DropflagMill x = mill(kinds(SHARED), line(READ, 0));
        Due.is("with it: isWanted(0, 0)", x.isWanted(0, 0), true);
        Due.is("end of all: isWanted(1, 0)", x.isWanted(1, 0), false);
        x.put(0, PANIC, 0, 0);
        x.add(READ, 0, 0);
        Due.is("no way goes on: isWanted(0, 0)", x.isWanted(0, 0), false);
        Due.is("a way from there: isWanted(1, 0)", x.isWanted(1, 0), true);
        DropflagMill y = mill(kinds(SHARED), line(LOOP, 1), line(READ, 0), line(LOOP, 1), line(END), line(END));
        for (int at = 0; at <= 5; at++) {
            Due.is("round the loop: isWanted(" + at + ", 0)", y.isWanted(at, 0), at < 5);
        }
    }

    /** Term 5: "FAULTS, LINE by LINE (but DEAD ones)". */
    private static void t5DeadLinesHaveNoFaults() {
        DropflagMill x = mill(kinds(BOX, NUMBER), line(READ, 0), line(PANIC), line(READ, 0), line(DROP, 0), line(READ, 3));
        faultsAre("a PANIC with DEAD LINES behind it", x, new int[] {1, 0, 0, NONE, NONE});
        x.put(0, PANIC, 0, 0);
        faultsAre("a PANIC as the first LINE", x);
        Due.is("run()", x.run(), PANICKED);
        // a way back from a DEAD LINE is none
        DropflagMill y = mill(kinds(BOX), line(MAKE, 0, 1), line(LOOP, 2), line(READ, 0), line(PANIC), line(DROP, 0), line(END));
        faultsAre("a LOOP that never goes round", y);
    }

    /** Term 5: "one at most of each: of what it USES, .. otherwise, of the first one that it TAKES". */
    private static void t5OneFaultAtMost() {
        int[] kinds = kinds(BOX, BOX, SHARED, SHARED);
        // a MOVE that misses b, and TAKES a that is lent
        DropflagMill x = mill(kinds, line(MAKE, 0, 1), line(BORROW, 6, 0), line(MOVE, 0, 3), line(READ, 6));
        faultsAre("a USE that misses", x, new int[] {1, 2, 3, NONE, NONE});
        // a MOVE that TAKES both a and b, that are lent: the first one in the order is a, with the greater LOAN
        DropflagMill y = mill(kinds, line(MAKE, 0, 1), line(MAKE, 3, 1), line(BORROW, 6, 3), line(BORROW, 9, 0),
            line(MOVE, 0, 3), line(READ, 6), line(READ, 9));
        faultsAre("a, then b", y, new int[] {3, 4, 0, 1, 6});
        y.put(6, READ, 6, 0);
        faultsAre("b alone", y, new int[] {3, 4, 3, 0, 6});
        // a COPY TAKES b to READ ahead of a to WRITE
        DropflagMill z = mill(kinds(NUMBER, NUMBER, ALONE, ALONE), line(MAKE, 0, 1), line(MAKE, 3, 1), line(LEND, 6, 0),
            line(LEND, 9, 3), line(COPY, 0, 3), line(READ, 6), line(READ, 9));
        faultsAre("b, then a", z, new int[] {4, 4, 3, 1, 6});
        z.put(6, READ, 6, 0);
        faultsAre("a alone", z, new int[] {3, 4, 0, 0, 6});
        // 32 LINES, each with one
        DropflagMill full = mill(kinds);
        for (int at = 0; at < 32; at++) {
            full.add(READ, 0, 0);
        }
        Due.is("32 faults: many(2)", full.many(2), 32);
        faultIs(full, 31, 1, 31, 0, NONE, NONE);
        Due.fails(full, INDEX, "fault(32, 0)", () -> full.fault(32, 0));
    }

    /** Term 5: "of what it USES, LEAF by LEAF, the first one that may NOT have: FAULT 1, if it cannot HAVE, otherwise 2". */
    private static void t5FirstLeafThatMayNotHave() {
        int[] kinds = kinds(NUMBER, PAIR, COUNTED, COUNTED);
        DropflagMill x = mill(kinds, line(MAKE, 0, 1), line(MAKE, 4, 1), line(READ, 3), line(MAKE, 5, 1), line(DROP, 4),
            line(READ, 3), line(DROP, 5), line(READ, 3));
        faultsAre("PARTS that lack", x, new int[] {1, 2, 5, NONE, NONE}, new int[] {1, 5, 4, NONE, NONE},
            new int[] {1, 7, 4, NONE, NONE});
        // PART 0 may be, PART 1 cannot be: the first one tells
        DropflagMill y = mill(kinds, line(MAKE, 0, 1), line(IF, 0), line(MAKE, 4, 1), line(END), line(READ, 3));
        faultsAre("PART 0 may lack", y, new int[] {2, 4, 4, NONE, NONE});
        y.put(2, MAKE, 5, 1);
        faultsAre("PART 0 lacks", y, new int[] {1, 4, 4, NONE, NONE});
        y.put(2, MAKE, 3, 1);
        y.put(4, READ, 5, 0);
        faultsAre("PART 1 may lack", y, new int[] {2, 4, 5, NONE, NONE});
        // LINK USES a, then b
        DropflagMill z = mill(kinds, line(LINK, 9, 6), line(MAKE, 9, 1), line(LINK, 9, 6), line(LINK, 9, 9));
        faultsAre("LINK", z, new int[] {1, 0, 9, NONE, NONE}, new int[] {1, 2, 6, NONE, NONE});
    }

    /** Term 5: "that a BORROW can HOLD ahead of the LINE that is WANTED ahead of one of its NEXT LINES". */
    private static void t5WantedBehind() {
        int[] kinds = kinds(NUMBER, ALONE);
        DropflagMill x = mill(kinds, line(MAKE, 0, 1), line(LEND, 3, 0), line(READ, 3), line(WRITE, 0, 2));
        faultsAre("not WANTED behind", x);
        x.add(READ, 3, 0);
        faultsAre("WANTED behind", x, new int[] {3, 3, 0, 0, 4});
        x.put(4, PANIC, 0, 0);
        x.add(READ, 3, 0);
        faultsAre("WANTED behind a PANIC alone", x);
        x.put(4, LEND, 3, 0);
        faultsAre("given anew behind", x);
        // one of two NEXT LINES is enough
        DropflagMill y = mill(kinds, line(MAKE, 0, 1), line(LEND, 3, 0), line(IF, 0), line(PANIC), line(ELSE), line(READ, 3),
            line(END));
        faultsAre("WANTED in one branch", y, new int[] {4, 2, 0, 0, 5});
        // the PANIC itself has no NEXT LINES; in a LOOP, the way back counts
        DropflagMill z = mill(kinds, line(MAKE, 0, 1), line(LEND, 3, 0), line(LOOP, 2), line(READ, 3), line(READ, 0), line(END));
        faultsAre("WANTED round the LOOP", z, new int[] {4, 4, 0, 0, 3});
    }

    /** Term 5: "and that this LINE does not give something". */
    private static void t5GivenByThisLine() {
        DropflagMill x = mill(kinds(NUMBER, ALONE, ALONE, SHARED), line(MAKE, 0, 1), line(LEND, 3, 0), line(LEND, 3, 0),
            line(READ, 3));
        faultsAre("lent anew to the same one", x);
        x.put(2, LEND, 6, 0);
        faultsAre("lent anew to another one", x, new int[] {3, 2, 0, 0, 3});
        x.put(2, BORROW, 9, 0);
        faultsAre("borrowed by another one", x, new int[] {4, 2, 0, 0, 3});
        x.put(3, READ, 9, 0);
        faultsAre("the first one is not WANTED", x);
    }

    /** Term 5: "the smallest LOAN of a PLACE that MEETS it". */
    private static void t5SmallestLoan() {
        DropflagMill x = mill(kinds(PAIR, SHARED, SHARED, SHARED), line(MAKE, 0, 1), line(BORROW, 3, 1), line(BORROW, 6, 0),
            line(BORROW, 9, 2), line(WRITE, 2, 5), line(READ, 9), line(READ, 6), line(READ, 3));
        faultsAre("a PART of what is lent", x, new int[] {3, 4, 2, 1, 6});
        x.put(4, DROP, 0, 0);
        faultsAre("all", x, new int[] {3, 4, 0, 0, 7});
        x.put(4, WRITE, 1, 5);
        faultsAre("the same PART", x, new int[] {3, 4, 1, 0, 7});
        x.put(7, READ, 6, 0);
        faultsAre("the same PART, no more WANTED", x, new int[] {3, 4, 1, 1, 7});
    }

    /** Term 5: "FAULT 4, if to READ, and the LOAN is of a LEND (LOANS that are neither do not count here)". */
    private static void t5LoansThatAreNeither() {
        // 0 NUMBER, 3 SHARED, 6 ALONE: the smaller LOAN is of a BORROW
        DropflagMill x = mill(kinds(NUMBER, SHARED, ALONE), line(MAKE, 0, 1), line(BORROW, 3, 0), line(READ, 0),
            line(IF, 0), line(END), line(BORROW, 3, 0), line(READ, 3));
        faultsAre("READ of what is borrowed", x);
        DropflagMill y = mill(kinds(PAIR, SHARED, ALONE), line(MAKE, 0, 1), line(BORROW, 3, 0), line(LEND, 6, 1),
            line(READ, 0), line(READ, 2), line(READ, 3), line(READ, 6));
        faultsAre("READ of what is lent", y, new int[] {3, 2, 1, 0, 5}, new int[] {4, 3, 0, 1, 6});
        y.put(4, READ, 1, 0);
        faultsAre("READ of what is lent", y, new int[] {3, 2, 1, 0, 5}, new int[] {4, 3, 0, 1, 6},
            new int[] {4, 4, 1, 1, 6});
    }

    /** Term 5: "If it is not WHOLE, there is one FAULT alone: 5" (which LINE: BoundaryLinesTest, term 2). */
    private static void t5OneFaultAloneIfNotWhole() {
        DropflagMill x = mill(kinds(BOX), line(READ, 0), line(DROP, 0));
        Due.is("whole: many(2)", x.many(2), 2);
        x.add(LOOP, 1, 0);
        faultsAre("a LOOP without END", x, new int[] {5, 2, NONE, NONE, NONE});
        x.put(2, END, 0, 0);
        x.add(END, 0, 0);
        faultsAre("two ENDS too many", x, new int[] {5, 2, NONE, NONE, NONE});
        x.cut();
        x.cut();
        Due.is("whole again: many(2)", x.many(2), 2);
        DropflagMill full = mill(kinds(BOX));
        for (int at = 0; at < 32; at++) {
            full.add(LOOP, 1, 0);
        }
        faultsAre("32 LOOPS", full, new int[] {5, 31, NONE, NONE, NONE});
        full.put(31, END, 0, 0);
        faultsAre("31 LOOPS and an END", full, new int[] {5, 29, NONE, NONE, NONE});
    }

    /** Term 5: "The LAST USE of a LOAN: the greatest LINE that USES a BORROW that can HOLD it ahead of that (NONE)". */
    private static void t5LastUse() {
        DropflagMill x = mill(kinds(NUMBER, SHARED, SHARED), line(MAKE, 0, 1), line(BORROW, 3, 0));
        Due.is("of none: ofLoan(0, 3)", x.ofLoan(0, 3), NONE);
        x.add(COPY, 6, 3);
        Due.is("of a COPY: ofLoan(0, 3)", x.ofLoan(0, 3), 2);
        x.add(READ, 6, 0);
        Due.is("of what it was copied to: ofLoan(0, 3)", x.ofLoan(0, 3), 3);
        x.add(BORROW, 6, 0);
        x.add(READ, 6, 0);
        Due.is("not of another loan: ofLoan(0, 3)", x.ofLoan(0, 3), 3);
        Due.is("ofLoan(1, 3)", x.ofLoan(1, 3), 5);
        x.add(PANIC, 0, 0);
        x.add(READ, 3, 0);
        Due.is("not of a dead line: ofLoan(0, 3)", x.ofLoan(0, 3), 3);
        // the greatest LINE may be ahead of the LOAN itself
        DropflagMill y = mill(kinds(NUMBER, SHARED), line(MAKE, 0, 1), line(BORROW, 3, 0), line(LOOP, 2), line(READ, 3),
            line(BORROW, 3, 0), line(END));
        Due.is("round the loop: ofLoan(1, 3)", y.ofLoan(1, 3), 3);
        // a USE as the first LINE can HOLD none
        DropflagMill z = mill(kinds(SHARED, NUMBER), line(READ, 0), line(MAKE, 3, 1), line(BORROW, 0, 3));
        Due.is("used ahead alone: ofLoan(0, 3)", z.ofLoan(0, 3), NONE);
    }

    private static void flagsAre(String what, DropflagMill x, int... flags) {
        int all = 0;
        for (int v = 0; v < flags.length; v++) {
            Due.is(what + ": ofVariable(" + v + ", 1)", x.ofVariable(v, 1), flags[v]);
            all += Integer.bitCount(flags[v]);
        }
        Due.is(what + ": many(4)", x.many(4), all);
    }

    /**
     * Term 5: "A LEAF of something OWNED needs a FLAG, if it may both HAVE and NOT ahead of a MAKE, MOVE or COPY to it
     * (or to its PAIR), of a PANIC, or of a HOLD, or at the END OF ALL".
     */
    private static void t5FlagsAtTheEdges() {
        // 0 NUMBER, 3 NUMBER, 6 BOX, 9 PAIR, 12 COUNTED, 15 COUNTED; the LINE 6 is where both may be
        int[] kinds = kinds(NUMBER, NUMBER, BOX, PAIR, COUNTED, COUNTED);
        int[][] start = {line(MAKE, 0, 1), line(MAKE, 15, 1), line(IF, 0), line(MAKE, 3, 1), line(END)};
        DropflagMill x = mill(kinds, start);
        flagsAre("a NUMBER is not OWNED", x, 0, 0, 0, 0, 0, 0);
        x.put(3, MAKE, 6, 1);
        flagsAre("at the END OF ALL", x, 0, 0, 1, 0, 0, 0);
        x.put(3, MAKE, 10, 1);
        flagsAre("PART 0 at the END OF ALL", x, 0, 0, 0, 1, 0, 0);
        x.put(3, MAKE, 11, 1);
        flagsAre("PART 1 at the END OF ALL", x, 0, 0, 0, 2, 0, 0);
        x.put(3, MAKE, 9, 1);
        flagsAre("both PARTS at the END OF ALL", x, 0, 0, 0, 3, 0, 0);
        x.put(3, MAKE, 12, 1);
        flagsAre("a NODE at the END OF ALL", x, 0, 0, 0, 0, 1, 0);
        // ahead of a LINE of each SORT, with an END OF ALL where none may be
        int[][] asks = {line(MAKE, 6, 1), line(MAKE, 9, 1), line(MAKE, 10, 1), line(MAKE, 11, 1), line(MOVE, 10, 11),
            line(COPY, 12, 15), line(MAKE, 12, 1), line(PANIC), line(HOLD, 15)};
        int[][] due = {{1, 0, 0}, {0, 3, 0}, {0, 1, 0}, {0, 2, 0}, {0, 1, 0}, {0, 0, 1}, {0, 0, 1}, {1, 3, 1}, {1, 3, 1}};
        for (int k = 0; k < asks.length; k++) {
            flagAhead(kinds, asks[k], due[k]);
        }
        int[][] none = {line(READ, 15), line(WRITE, 15, 1), line(LINK, 15, 15), line(LET_GO, 15), line(DROP, 6), line(READ, 6),
            line(DROP, 9), line(DROP, 12), line(MAKE, 15, 1), line(MAKE, 0, 2), line(STEP, 0, 1), line(COPY, 0, 0)};
        for (int[] each : none) {
            flagAhead(kinds, each, new int[] {0, 0, 0});
        }
    }

    /** The LINE comes where BOX, PAIR and NODE may both be; DROPS behind it keep the END OF ALL out of it. */
    private static void flagAhead(int[] kinds, int[] asked, int[] due) {
        DropflagMill x = mill(kinds, line(MAKE, 0, 1), line(MAKE, 15, 1), line(IF, 0), line(MAKE, 6, 1), line(MAKE, 9, 1),
            line(MAKE, 12, 1), line(END), asked, line(DROP, 6), line(DROP, 9), line(DROP, 12));
        String what = "ahead of " + java.util.Arrays.toString(asked);
        flagsAre(what, x, 0, 0, due[0], due[1], due[2], 0);
    }

    /** Term 5: "(none of these DEAD)". */
    private static void t5FlagsOfNoDeadLine() {
        int[] kinds = kinds(NUMBER, BOX, COUNTED);
        DropflagMill x = mill(kinds, line(MAKE, 0, 1), line(IF, 0), line(MAKE, 3, 1), line(END), line(DROP, 3), line(PANIC),
            line(HOLD, 6), line(MAKE, 3, 1));
        flagsAre("DEAD LINES, and a DEAD END OF ALL", x, 0, 0, 0);
        x.put(4, READ, 0, 0);
        flagsAre("ahead of the PANIC", x, 0, 1, 0);
        DropflagMill y = mill(kinds, line(MAKE, 0, 1), line(PANIC), line(IF, 0), line(MAKE, 3, 1), line(END));
        flagsAre("all is DEAD", y, 0, 0, 0);
        y.put(1, READ, 0, 0);
        flagsAre("nothing is DEAD", y, 0, 1, 0);
    }

    /** Promise 7: "Throws IndexOutOfBoundsException if there is no such LINE, or PLACE". */
    private static void p7NoSuchLineOrPlace() {
        DropflagMill x = mill(kinds(PAIR, NUMBER, SHARED, PAIR), line(MAKE, 0, 1), line(MAKE, 9, 1));
        for (int at : new int[] {MIN, -1, 3, 4, 32, 33, MAX}) {
            Due.leavesAll(x, INDEX, "state(" + at + ", 0)", () -> x.state(at, 0));
        }
        for (int place : new int[] {MIN, -3, -2, -1, 4, 5, 7, 8, 12, 13, 24, MAX}) {
            Due.leavesAll(x, INDEX, "state(0, " + place + ")", () -> x.state(0, place));
            Due.leavesAll(x, INDEX, "state(2, " + place + ")", () -> x.state(2, place));
        }
        Due.leavesAll(x, INDEX, "state(3, 12)", () -> x.state(3, 12));
        Due.is("the END OF ALL, the last PLACE: state(2, 11)", x.state(2, 11), 1);
        Due.is("the first ones: state(0, 0)", x.state(0, 0), 2);
        Due.is("state(0, 3)", x.state(0, 3), 2);
    }

    /** Promise 7: "0 if it is DEAD (or it is not WHOLE)". */
    private static void p7Dead() {
        DropflagMill x = mill(kinds(BOX), line(MAKE, 0, 1), line(PANIC), line(READ, 0));
        statesAre(x, 0, 2, 1, 0, 0);
        x.put(0, END, 0, 0);
        statesAre(x, 0, 0, 0, 0, 0);
        x.put(0, MAKE, 0, 1);
        x.put(1, LOOP, 1, 0);
        statesAre(x, 0, 0, 0, 0, 0);
        x.add(END, 0, 0);
        statesAre(x, 0, 2, 1, 1, 1, 1);
    }

    /** Promise 7: "1 if it HAS (all LEAVES do), 2 if it has NOT (one cannot HAVE), 3 otherwise": each of two PARTS. */
    private static void p7AllLeavesOrOne() {
        // PART 0 and PART 1: 0 has not, 1 has, 2 may have
        int[][] due = {{2, 2, 2}, {2, 1, 3}, {2, 3, 3}};
        for (int first = 0; first <= 2; first++) {
            for (int second = 0; second <= 2; second++) {
                DropflagMill x = mill(kinds(NUMBER, PAIR), line(MAKE, 0, 1));
                makeSo(x, 4, first);
                makeSo(x, 5, second);
                int at = x.many(1);
                String parts = first + " and " + second;
                Due.is(parts + ": state of the PAIR", x.state(at, 3), due[first][second]);
                Due.is(parts + ": state of PART 0", x.state(at, 4), new int[] {2, 1, 3}[first]);
                Due.is(parts + ": state of PART 1", x.state(at, 5), new int[] {2, 1, 3}[second]);
            }
        }
    }

    private static void makeSo(DropflagMill x, int place, int how) {
        if (how == 2) {
            x.add(IF, 0, 0);
        }
        if (how > 0) {
            x.add(MAKE, place, 1);
        }
        if (how == 2) {
            x.add(END, 0, 0);
        }
    }

    /** 0 NUMBER, 1 SHARED, 2 BOX, 3 ALONE. */
    private static DropflagMill withLoans() {
        return mill(kinds(NUMBER, SHARED, BOX, ALONE), line(MAKE, 0, 1), line(MAKE, 6, 1), line(BORROW, 3, 0),
            line(LEND, 9, 6), line(READ, 3), line(READ, 9));
    }

    private static final int[] NO_LINES = {MIN, -1, 7, 8, 32, 33, MAX};
    private static final int[] NO_BORROWS = {MIN, -1, 0, 2, 4, 8, 9, MAX};

    /** Promise 8: "Throws IndexOutOfBoundsException if there is no such LINE, or BORROW". */
    private static void p8NoSuchLineOrBorrow() {
        DropflagMill x = withLoans();
        for (int at : NO_LINES) {
            Due.leavesAll(x, INDEX, "holds(" + at + ", 1)", () -> x.holds(at, 1));
        }
        for (int v : NO_BORROWS) {
            Due.leavesAll(x, INDEX, "holds(3, " + v + ")", () -> x.holds(3, v));
        }
        Due.is("the first line: holds(0, 1)", x.holds(0, 1), 0);
        Due.is("the END OF ALL: holds(6, 1)", x.holds(6, 1), 1);
        Due.is("the last BORROW: holds(6, 3)", x.holds(6, 3), 2);
    }

    /** Promise 8: "(0, if it is DEAD, or not WHOLE)". */
    private static void p8DeadOrNotWhole() {
        DropflagMill x = withLoans();
        x.put(4, PANIC, 0, 0);
        Due.is("ahead of the PANIC: holds(4, 1)", x.holds(4, 1), 1);
        Due.is("DEAD: holds(5, 1)", x.holds(5, 1), 0);
        Due.is("a DEAD END OF ALL: holds(6, 3)", x.holds(6, 3), 0);
        x.put(4, ELSE, 0, 0);
        for (int at = 0; at <= 6; at++) {
            Due.is("not WHOLE: holds(" + at + ", 1)", x.holds(at, 1), 0);
            Due.is("not WHOLE: holds(" + at + ", 3)", x.holds(at, 3), 0);
        }
    }

    /** Promise 9: "Throws IndexOutOfBoundsException if there is no such LINE, or BORROW". */
    private static void p9NoSuchLineOrBorrow() {
        DropflagMill x = withLoans();
        for (int at : NO_LINES) {
            Due.leavesAll(x, INDEX, "isWanted(" + at + ", 1)", () -> x.isWanted(at, 1));
        }
        for (int v : NO_BORROWS) {
            Due.leavesAll(x, INDEX, "isWanted(3, " + v + ")", () -> x.isWanted(3, v));
        }
        Due.is("the first line: isWanted(0, 1)", x.isWanted(0, 1), false);
        Due.is("the last line: isWanted(5, 3)", x.isWanted(5, 3), true);
        Due.is("the END OF ALL: isWanted(6, 3)", x.isWanted(6, 3), false);
    }

    /** Promise 9: "(false, if it is not WHOLE)". */
    private static void p9NotWhole() {
        DropflagMill x = withLoans();
        Due.is("isWanted(4, 1)", x.isWanted(4, 1), true);
        x.add(END, 0, 0);
        for (int at = 0; at <= 7; at++) {
            Due.is("not WHOLE: isWanted(" + at + ", 1)", x.isWanted(at, 1), false);
            Due.is("not WHOLE: isWanted(" + at + ", 3)", x.isWanted(at, 3), false);
        }
        x.cut();
        Due.is("isWanted(4, 1)", x.isWanted(4, 1), true);
    }

    /** Promise 10: "Throws IndexOutOfBoundsException if there is no such LINE, or PLACE". */
    private static void p10NoSuchLineOrPlace() {
        DropflagMill x = withLoans();
        for (int at : NO_LINES) {
            Due.leavesAll(x, INDEX, "inTheWay(" + at + ", 0)", () -> x.inTheWay(at, 0));
        }
        for (int place : new int[] {MIN, -3, -2, -1, 1, 2, 4, 5, 7, 8, 10, 11, 12, 24, MAX}) {
            Due.leavesAll(x, INDEX, "inTheWay(4, " + place + ")", () -> x.inTheWay(4, place));
        }
        Due.is("inTheWay(4, 0)", x.inTheWay(4, 0), 0);
        Due.is("inTheWay(4, 6)", x.inTheWay(4, 6), 1);
        Due.is("a BORROW is a PLACE: inTheWay(4, 9)", x.inTheWay(4, 9), NONE);
    }

    /** Promise 10: "the smallest LOAN ..; NONE without one (and if it is not WHOLE)". */
    private static void p10NoneWithoutOne() {
        DropflagMill x = withLoans();
        Due.is("not yet: inTheWay(2, 0)", x.inTheWay(2, 0), NONE);
        Due.is("from there: inTheWay(3, 0)", x.inTheWay(3, 0), 0);
        Due.is("until then: inTheWay(4, 0)", x.inTheWay(4, 0), 0);
        Due.is("no more: inTheWay(5, 0)", x.inTheWay(5, 0), NONE);
        Due.is("the END OF ALL: inTheWay(6, 6)", x.inTheWay(6, 6), NONE);
        x.add(IF, 0, 0);
        Due.is("not WHOLE: inTheWay(4, 0)", x.inTheWay(4, 0), NONE);
        x.cut();
        x.put(1, PANIC, 0, 0);
        Due.is("DEAD: inTheWay(4, 0)", x.inTheWay(4, 0), NONE);
        // the smallest one of several
        DropflagMill y = mill(kinds(PAIR, SHARED, SHARED), line(MAKE, 0, 1), line(BORROW, 3, 1), line(BORROW, 6, 0),
            line(READ, 3), line(READ, 6));
        Due.is("of both: inTheWay(3, 0)", y.inTheWay(3, 0), 0);
        Due.is("of the PAIR alone: inTheWay(3, 2)", y.inTheWay(3, 2), 1);
        Due.is("of what is left: inTheWay(4, 1)", y.inTheWay(4, 1), 1);
    }

    /** Promise 11: "Throws IndexOutOfBoundsException if there is no such LOAN", ahead of the one for what. */
    private static void p11NoSuchLoan() {
        DropflagMill x = withLoans();
        for (int loan : new int[] {MIN, -1, 2, 3, 15, 16, MAX}) {
            for (int what : new int[] {-1, 0, 3, 4}) {
                Due.fails(x, INDEX, "ofLoan(" + loan + ", " + what + ")", () -> x.ofLoan(loan, what));
            }
        }
        Due.is("the last one: ofLoan(1, 0)", x.ofLoan(1, 0), 3);
        DropflagMill full = mill(kinds(NUMBER, SHARED));
        for (int k = 0; k < 32; k++) {
            full.add(k % 2 == 0 ? READ : BORROW, k % 2 == 0 ? 0 : 3, 0);
        }
        Due.is("the 16th: ofLoan(15, 0)", full.ofLoan(15, 0), 31);
        Due.fails(full, INDEX, "ofLoan(16, 0)", () -> full.ofLoan(16, 0));
    }

    /** Promise 11: "Throws IllegalArgumentException if what is not 0 to 3". */
    private static void p11WhatIsNot0To3() {
        DropflagMill x = withLoans();
        for (int what : new int[] {MIN, -1, 4, 5, MAX}) {
            Due.leavesAll(x, ARGUMENT, "ofLoan(0, " + what + ")", () -> x.ofLoan(0, what));
        }
        int[][] due = {{2, 0, 0, 4}, {3, 6, 1, 5}};
        for (int loan = 0; loan <= 1; loan++) {
            for (int what = 0; what <= 3; what++) {
                Due.is("ofLoan(" + loan + ", " + what + ")", x.ofLoan(loan, what), due[loan][what]);
            }
        }
        x.add(END, 0, 0);
        Due.is("not WHOLE: ofLoan(1, 0)", x.ofLoan(1, 0), 3);
        Due.is("not WHOLE: ofLoan(1, 3)", x.ofLoan(1, 3), NONE);
    }

    /** Promise 12: "Throws IndexOutOfBoundsException if there is no such FAULT", ahead of the one for what. */
    private static void p12NoSuchFault() {
        DropflagMill x = mill(kinds(BOX), line(MAKE, 0, 1));
        Due.leavesAll(x, INDEX, "without any: fault(0, 0)", () -> x.fault(0, 0));
        x.add(DROP, 0, 0);
        x.add(READ, 0, 0);
        x.add(DROP, 0, 0);
        for (int k : new int[] {MIN, -1, 2, 3, 32, 33, MAX}) {
            for (int what : new int[] {-1, 0, 4, 5}) {
                Due.fails(x, INDEX, "fault(" + k + ", " + what + ")", () -> x.fault(k, what));
            }
        }
        faultIs(x, 0, 1, 2, 0, NONE, NONE);
        faultIs(x, 1, 1, 3, 0, NONE, NONE);
        x.put(0, END, 0, 0);
        Due.fails(x, INDEX, "not WHOLE: fault(1, 0)", () -> x.fault(1, 0));
    }

    /** Promise 12: "Throws IllegalArgumentException if what is not 0 to 4". */
    private static void p12WhatIsNot0To4() {
        DropflagMill x = mill(kinds(BOX), line(READ, 0));
        for (int what : new int[] {MIN, -1, 5, 6, MAX}) {
            Due.leavesAll(x, ARGUMENT, "fault(0, " + what + ")", () -> x.fault(0, what));
        }
    }

    /** Promise 12: "2 the PLACE (.. 5: NONE), 3 the LOAN (NONE but for 3 and 4), 4 the LAST USE of that (NONE)". */
    private static void p12NoneForOthers() {
        DropflagMill x = mill(kinds(NUMBER, ALONE, BOX), line(READ, 6), line(MAKE, 0, 1), line(IF, 0), line(MAKE, 6, 1),
            line(END), line(LEND, 3, 0), line(READ, 6), line(WRITE, 0, 1), line(READ, 0), line(READ, 3));
        faultsAre("FAULTS 1 to 4", x, new int[] {1, 0, 6, NONE, NONE}, new int[] {2, 6, 6, NONE, NONE},
            new int[] {3, 7, 0, 0, 9}, new int[] {4, 8, 0, 0, 9});
        x.put(9, ELSE, 0, 0);
        faultsAre("FAULT 5", x, new int[] {5, 9, NONE, NONE, NONE});
    }

    /** Promise 13: "Throws IndexOutOfBoundsException if there is no such VARIABLE", ahead of the one for what. */
    private static void p13NoSuchVariable() {
        DropflagMill x = withLoans();
        for (int v : new int[] {MIN, -1, 4, 5, 7, 8, MAX}) {
            for (int what : new int[] {-1, 0, 3, 4}) {
                Due.fails(x, INDEX, "ofVariable(" + v + ", " + what + ")", () -> x.ofVariable(v, what));
            }
        }
        Due.is("the last one: ofVariable(3, 0)", x.ofVariable(3, 0), ALONE);
        DropflagMill full = mill(kinds(BOX, BOX, BOX, BOX, BOX, BOX, BOX, PAIR), line(MAKE, 23, 1));
        Due.is("the 8th: ofVariable(7, 0)", full.ofVariable(7, 0), PAIR);
        Due.is("the 8th: ofVariable(7, 3)", full.ofVariable(7, 3), 1);
        Due.fails(full, INDEX, "ofVariable(8, 0)", () -> full.ofVariable(8, 0));
    }

    /** Promise 13: "Throws IllegalArgumentException if what is not 0 to 3". */
    private static void p13WhatIsNot0To3() {
        DropflagMill x = withLoans();
        for (int what : new int[] {MIN, -1, 4, 5, MAX}) {
            Due.leavesAll(x, ARGUMENT, "ofVariable(0, " + what + ")", () -> x.ofVariable(0, what));
        }
    }

    /** Promise 13: "how many LINES USE it (as b, or as a, or a PART; a LINE counts once)", "how many let it .. HAVE". */
    private static void p13ALineCountsOnce() {
        DropflagMill x = mill(kinds(COUNTED, PAIR, NUMBER, BOX), line(LINK, 0, 0), line(COPY, 0, 0), line(MOVE, 0, 0),
            line(MOVE, 4, 5), line(MOVE, 3, 3), line(READ, 4), line(IF, 6), line(STEP, 6, 1), line(END), line(LOOP, 3),
            line(END));
        int[][] due = {{3, 2}, {3, 2}, {2, 0}, {0, 0}};
        for (int v = 0; v <= 3; v++) {
            Due.is("ofVariable(" + v + ", 2)", x.ofVariable(v, 2), due[v][0]);
            Due.is("ofVariable(" + v + ", 3)", x.ofVariable(v, 3), due[v][1]);
        }
        // "how many LINES": also DEAD ones, and those of a program that is not WHOLE
        for (int sort : new int[] {PANIC, END}) {
            DropflagMill y = mill(kinds(BOX, BOX), line(MAKE, 0, 1), line(sort), line(MOVE, 3, 0), line(READ, 0));
            Due.is("behind a " + sort + ": ofVariable(0, 2)", y.ofVariable(0, 2), 2);
            Due.is("behind a " + sort + ": ofVariable(0, 3)", y.ofVariable(0, 3), 1);
            Due.is("behind a " + sort + ": ofVariable(1, 2)", y.ofVariable(1, 2), 0);
            Due.is("behind a " + sort + ": ofVariable(1, 3)", y.ofVariable(1, 3), 1);
        }
        DropflagMill full = mill(kinds(PAIR));
        for (int at = 0; at < 32; at++) {
            full.add(MOVE, 1, 2);
        }
        Due.is("32 LINES: ofVariable(0, 2)", full.ofVariable(0, 2), 32);
        Due.is("32 LINES: ofVariable(0, 3)", full.ofVariable(0, 3), 32);
    }

    /** Promise 17: "Throws IllegalArgumentException if what is not 0 to 6". */
    private static void p17WhatIsNot0To6() {
        DropflagMill x = withLoans();
        for (int what : new int[] {MIN, -1, 7, 8, MAX}) {
            Due.leavesAll(x, ARGUMENT, "many(" + what + ")", () -> x.many(what));
        }
        int[] due = {4, 6, 0, 2, 0, 0, 2};
        for (int what = 0; what <= 6; what++) {
            Due.is("many(" + what + ")", x.many(what), due[what]);
        }
    }

    /** Promise 17: "(4 to 6: 0, if it is not WHOLE)". */
    private static void p17NotWhole() {
        DropflagMill x = mill(kinds(NUMBER, BOX, SHARED), line(MAKE, 0, 1), line(IF, 0), line(MAKE, 3, 1), line(END),
            line(BORROW, 6, 0), line(READ, 6), line(PANIC), line(READ, 0));
        int[] due = {3, 8, 0, 1, 1, 1, 1};
        for (int what = 0; what <= 6; what++) {
            Due.is("many(" + what + ")", x.many(what), due[what]);
        }
        x.add(END, 0, 0);
        int[] then = {3, 9, 1, 1, 0, 0, 0};
        for (int what = 0; what <= 6; what++) {
            Due.is("not WHOLE: many(" + what + ")", x.many(what), then[what]);
        }
    }

    /** Promise 17: "6 the most BORROWS that are WANTED ahead of one LINE": none to all 8 of them. */
    private static void p17MostWanted() {
        DropflagMill x = mill(kinds(SHARED, ALONE, SHARED, ALONE, SHARED, ALONE, SHARED, ALONE));
        Due.is("no LINES: many(6)", x.many(6), 0);
        x.add(PANIC, 0, 0);
        Due.is("none is WANTED: many(6)", x.many(6), 0);
        x.cut();
        for (int v = 0; v < 8; v++) {
            x.add(READ, 3 * v, 0);
            Due.is("ahead of the first LINE: many(6)", x.many(6), v + 1);
        }
        Due.is("again: add()", x.add(READ, 0, 0), 8);
        Due.is("again: many(6)", x.many(6), 8);
        x.put(4, PANIC, 0, 0);
        Due.is("4 ahead and 4 behind: many(6)", x.many(6), 4);
        // "ahead of one LINE": a DEAD one is a LINE, and isWanted() leaves it in
        x.put(4, READ, 12, 0);
        x.put(2, PANIC, 0, 0);
        Due.is("DEAD: ofLine(3, 5)", x.ofLine(3, 5), 1);
        Due.is("DEAD: isWanted(3, 3)", x.isWanted(3, 3), true);
        Due.is("2 ahead and 6 behind, that is DEAD: many(6)", x.many(6), 6);
    }

    /** "A method that throws an exception changes nothing": promises 7 to 13 and 17, behind a RUN and with FAULTS. */
    private static void refusedCallsChangeNothing() {
        DropflagMill x = withLoans();
        x.run();
        x.add(WRITE, 6, 3);
        x.add(READ, 9, 0);
        Due.leavesAll(x, INDEX, "state(9, 0)", () -> x.state(9, 0));
        Due.leavesAll(x, INDEX, "holds(0, 0)", () -> x.holds(0, 0));
        Due.leavesAll(x, INDEX, "isWanted(0, 2)", () -> x.isWanted(0, 2));
        Due.leavesAll(x, INDEX, "inTheWay(0, 1)", () -> x.inTheWay(0, 1));
        Due.leavesAll(x, INDEX, "ofLoan(2, 0)", () -> x.ofLoan(2, 0));
        Due.leavesAll(x, ARGUMENT, "ofLoan(1, 4)", () -> x.ofLoan(1, 4));
        Due.leavesAll(x, INDEX, "fault(1, 0)", () -> x.fault(1, 0));
        Due.leavesAll(x, ARGUMENT, "fault(0, 5)", () -> x.fault(0, 5));
        Due.leavesAll(x, INDEX, "ofVariable(4, 0)", () -> x.ofVariable(4, 0));
        Due.leavesAll(x, ARGUMENT, "ofVariable(0, 4)", () -> x.ofVariable(0, 4));
        Due.leavesAll(x, ARGUMENT, "many(7)", () -> x.many(7));
    }
}
