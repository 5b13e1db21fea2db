/**
 * Boundary cases of VARIABLES and LINES: the sentences ahead of the promises, the terms 1 and 2, and the
 * promises 1 to 6. Each test names the promise, or the term, and the sentence of the document.
 */
public final class BoundaryLinesTest implements Words {
    /** 0 NUMBER, 3 BOX, 6 (7, 8) PAIR, 9 SHARED, 12 ALONE, 15 COUNTED, 18 (19, 20) PAIR; 21 is none. */
    private static final int[] KINDS = {NUMBER, BOX, PAIR, SHARED, ALONE, COUNTED, PAIR};
    private static final int[] PLACES = {0, 3, 6, 7, 8, 9, 12, 15, 18, 19, 20};
    private static final int[] NO_PLACES = {MIN, -3, -2, -1, 1, 2, 4, 5, 10, 11, 13, 14, 16, 17, 21, 22, 23, 24, MAX};

    public static void main(String[] args) {
        the512thCall();
        t1SetsAreSumsOfPowers();
        t2JustZeroWhereNoneIsTold();
        t2MakeTakesSmallNumbers();
        t2MovesAndCopies();
        t2BorrowsAndLends();
        t2ReadsAnyPlace();
        t2Writes();
        t2Drops();
        t2Ifs();
        t2LoopsOneToFourTimes();
        t2LinksAndHolds();
        t2Steps();
        t2WholeOrNot();
        t2NextLinesThatCoincide();
        t2BehindTheLastOne();
        p1NothingThereYet();
        p2KindIsNot0To5();
        p2ThereAre8();
        p2BehindLines();
        p3SortIsNot0To16();
        p3ThereAre32();
        p3SeventeenthLoan();
        p3FirstNamedException();
        p4NoSuchLine();
        p4WrongArguments();
        p4SeventeenThen();
        p4FirstNamedException();
        p5ThereIsNone();
        p6NoSuchLine();
        p6WhatIsNot0To5();
        p6EndOfAllIsAsManyAsThereAreLines();
        p6NotWhole();
        p6Dead();
        refusedCallsChangeNothing();
        Due.end();
    }

    private static DropflagMill mill(int[]... lines) {
        return Due.mill(KINDS, lines);
    }

    /** The LINE is taken by add() and put() as it was told. */
    private static void fits(int sort, int a, int b) {
        DropflagMill x = mill();
        String line = "(" + sort + ", " + a + ", " + b + ")";
        int k = -2;
        try {
            k = x.add(sort, a, b);
        } catch (RuntimeException e) {
            System.out.println("add" + line + " threw " + e);
        }
        Due.is("add" + line, k, 0);
        if (k == 0) {
            Due.is("put" + line, x.put(0, sort, a, b), sort);
            Due.is("the sort of " + line, x.ofLine(0, 0), sort);
            Due.is("the a of " + line, x.ofLine(0, 1), a);
            Due.is("the b of " + line, x.ofLine(0, 2), b);
        }
    }

    /** The LINE is refused by add() and put(), and nothing is changed. */
    private static void fitsNot(int sort, int a, int b) {
        DropflagMill x = mill(new int[] {READ, 0, 0});
        String line = "(" + sort + ", " + a + ", " + b + ")";
        Due.fails(x, ARGUMENT, "add" + line, () -> x.add(sort, a, b));
        Due.fails(x, ARGUMENT, "put" + line, () -> x.put(0, sort, a, b));
        Due.is("many(1) behind " + line, x.many(1), 1);
        Due.is("ofLine(0, 0) behind " + line, x.ofLine(0, 0), READ);
    }

    private static boolean isOneOf(int number, int[] all) {
        for (int each : all) {
            if (each == number) {
                return true;
            }
        }
        return false;
    }

    /** The SORT takes just these PLACES as its a, with this b. */
    private static void fitsJust(int sort, int b, int... places) {
        for (int place : PLACES) {
            if (isOneOf(place, places)) {
                fits(sort, place, b);
            } else {
                fitsNot(sort, place, b);
            }
        }
        for (int place : NO_PLACES) {
            fitsNot(sort, place, b);
        }
    }

    /** The SORT takes with this a just these PLACES as its b. */
    private static void fitsJustWith(int sort, int a, int... places) {
        for (int place : PLACES) {
            if (isOneOf(place, places)) {
                fits(sort, a, place);
            } else {
                fitsNot(sort, a, place);
            }
        }
        for (int place : NO_PLACES) {
            fitsNot(sort, a, place);
        }
    }

    /** The SORT takes with this a numbers from -99 to 99 as its b. */
    private static void takesSmallNumbers(int sort, int a) {
        for (int b : new int[] {-99, -98, -1, 0, 1, 98, 99}) {
            fits(sort, a, b);
        }
        for (int b : new int[] {-100, 100, 199, MIN, MIN + 1, MAX}) {
            fitsNot(sort, a, b);
        }
    }

    /** The SORT takes with this a nothing but 0 as its b. */
    private static void takesZeroAlone(int sort, int a) {
        fits(sort, a, 0);
        for (int b : new int[] {-1, 1, 3, MIN, MAX}) {
            fitsNot(sort, a, b);
        }
    }

    /** "An object is used for at most 512 calls after it has been made": the last of them, too. */
    private static void the512thCall() {
        DropflagMill x = new DropflagMill();
        x.variable(BOX);
        x.add(MAKE, 0, 3);
        x.add(READ, 0, 0);
        for (int call = 4; call <= 510; call++) {
            Due.is("call " + call + ": run()", x.run(), ENDED);
        }
        Due.is("call 511: told(1, 2)", x.told(1, 2), 2);
        Due.is("call 512: ofRun(9)", x.ofRun(9), 507);
        DropflagMill y = new DropflagMill();
        y.variable(BOX);
        for (int round = 0; round < 255; round++) {
            Due.is("add()", y.add(MAKE, 0, 3), 0);
            Due.is("cut()", y.cut(), MAKE);
        }
        Due.is("call 512: many(1)", y.many(1), 0);
    }

    /** Term 0: "Sets are told as the sum of 2^k for each k in them": 0 and 15, the least and the greatest LOAN. */
    private static void t1SetsAreSumsOfPowers() {
        DropflagMill x = Due.mill(new int[] {NUMBER, SHARED, SHARED}, new int[][] {{MAKE, 0, 1}, {BORROW, 3, 0}});
        for (int loan = 1; loan <= 14; loan++) {
            x.add(BORROW, 6, 0);
        }
        x.add(IF, 0, 0);
        x.add(BORROW, 3, 0);
        x.add(READ, 3, 0);
        x.add(END, 0, 0);
        Due.is("loan 14 alone: holds(16, 2)", x.holds(16, 2), 1 << 14);
        Due.is("loan 0 alone: holds(17, 1)", x.holds(17, 1), 1);
        Due.is("loan 15 alone: holds(18, 1)", x.holds(18, 1), 32768);
        Due.is("both: holds(19, 1)", x.holds(19, 1), 32769);
        Due.is("both: holds(20, 1)", x.holds(20, 1), 32769);
        Due.is("none: holds(1, 1)", x.holds(1, 1), 0);
    }

    /** Term 2: "with an a and a b (just 0, where none is told)". */
    private static void t2JustZeroWhereNoneIsTold() {
        for (int sort : new int[] {ELSE, END, PANIC}) {
            takesZeroAlone(sort, 0);
            for (int a : new int[] {MIN, -1, 1, 3, MAX}) {
                fitsNot(sort, a, 0);
            }
        }
        takesZeroAlone(READ, 3);
        takesZeroAlone(DROP, 3);
        takesZeroAlone(IF, 0);
        takesZeroAlone(LOOP, 1);
        takesZeroAlone(HOLD, 15);
        takesZeroAlone(LET_GO, 15);
    }

    /** Term 2: "MAKE the PLACE a, that is no BORROW, with the number b (-99 to 99 ..)". */
    private static void t2MakeTakesSmallNumbers() {
        fitsJust(MAKE, 5, 0, 3, 6, 7, 8, 15, 18, 19, 20);
        for (int place : new int[] {0, 3, 6, 7, 15}) {
            takesSmallNumbers(MAKE, place);
        }
    }

    /** Term 2: "MOVE .. both BOXES, PAIRS, COUNTED, or ALONE", "COPY .. both NUMBERS, SHARED, or COUNTED". */
    private static void t2MovesAndCopies() {
        int[] boxes = {3, 7, 8, 19, 20};
        for (int box : boxes) {
            fitsJustWith(MOVE, box, boxes);
        }
        fitsJustWith(MOVE, 6, 6, 18);
        fitsJustWith(MOVE, 18, 6, 18);
        fitsJustWith(MOVE, 12, 12);
        fitsJustWith(MOVE, 15, 15);
        fitsJustWith(MOVE, 0);
        fitsJustWith(MOVE, 9);
        fitsJustWith(COPY, 0, 0);
        fitsJustWith(COPY, 9, 9);
        fitsJustWith(COPY, 15, 15);
        for (int place : new int[] {3, 6, 7, 12, 18, 20}) {
            fitsJustWith(COPY, place);
        }
        for (int none : NO_PLACES) {
            fitsNot(MOVE, none, none);
            fitsNot(COPY, none, none);
        }
    }

    /** Term 2: "BORROW: the SHARED a gets a LOAN of the PLACE b, that is a NUMBER, BOX or PAIR; LEND: the ALONE a". */
    private static void t2BorrowsAndLends() {
        fitsJustWith(BORROW, 9, 0, 3, 6, 7, 8, 18, 19, 20);
        fitsJustWith(LEND, 12, 0, 3, 6, 7, 8, 18, 19, 20);
        fitsJust(BORROW, 3, 9);
        fitsJust(LEND, 3, 12);
    }

    /** Term 2: "READ the PLACE a": each one, and nothing that is no PLACE. */
    private static void t2ReadsAnyPlace() {
        fitsJust(READ, 0, PLACES);
    }

    /** Term 2: "WRITE the number b (-99 to 99) to the PLACE a, that is no PAIR, nor SHARED". */
    private static void t2Writes() {
        fitsJust(WRITE, 5, 0, 3, 7, 8, 12, 15, 19, 20);
        for (int place : new int[] {0, 3, 8, 12, 15}) {
            takesSmallNumbers(WRITE, place);
        }
    }

    /** Term 2: "DROP the PLACE a, that is OWNED"; term 1: "OWNED are BOXES, PAIRS and COUNTED ones". */
    private static void t2Drops() {
        fitsJust(DROP, 0, 3, 6, 7, 8, 15, 18, 19, 20);
    }

    /** Term 2: "IF the NUMBER a is above 0". */
    private static void t2Ifs() {
        fitsJust(IF, 0, 0);
    }

    /** Term 2: "LOOP, a times (1 to 4)". */
    private static void t2LoopsOneToFourTimes() {
        for (int times = 1; times <= 4; times++) {
            fits(LOOP, times, 0);
        }
        for (int times : new int[] {MIN, -1, 0, 5, 6, MAX}) {
            fitsNot(LOOP, times, 0);
        }
    }

    /** Term 2: "LINK: the COUNTED a to the COUNTED b. HOLD the COUNTED a. LET GO of it." */
    private static void t2LinksAndHolds() {
        fitsJust(LINK, 15, 15);
        fitsJustWith(LINK, 15, 15);
        fitsJust(HOLD, 0, 15);
        fitsJust(LET_GO, 0, 15);
    }

    /** Term 2: "STEP: the NUMBER a is b (-99 to 99) more". */
    private static void t2Steps() {
        fitsJust(STEP, 7, 0);
        takesSmallNumbers(STEP, 0);
    }

    /** The program is not WHOLE just because of this LINE, or is WHOLE with NONE. */
    private static void wrongIs(int line, int... sorts) {
        DropflagMill x = mill(new int[] {MAKE, 0, 1});
        for (int sort : sorts) {
            x.add(sort, sort == LOOP ? 1 : 0, 0);
        }
        String program = java.util.Arrays.toString(sorts);
        Due.is("faults of " + program, x.many(2), line == NONE ? 0 : 1);
        if (line != NONE && x.many(2) == 1) {
            Due.is("fault of " + program, x.fault(0, 0), 5);
            Due.is("line of the fault of " + program, x.fault(0, 1), line);
        }
        Due.is("the next line of " + program, x.ofLine(0, 3), line == NONE ? 1 : NONE);
    }

    /**
     * Term 2: "The program is WHOLE, if each IF and LOOP has its END (an END ends the last one that is open), each
     * ELSE is in an IF that is the last one that is open, and has none so far, and each END ends one", with term 5:
     * "at the first ELSE or END that is wrong, otherwise at the last IF or LOOP that has no END".
     */
    private static void t2WholeOrNot() {
        wrongIs(NONE);
        wrongIs(NONE, IF, END);
        wrongIs(NONE, LOOP, END);
        wrongIs(NONE, IF, ELSE, END);
        wrongIs(NONE, IF, IF, ELSE, END, ELSE, END);
        wrongIs(NONE, LOOP, IF, ELSE, END, END);
        wrongIs(NONE, IF, END, IF, END, LOOP, END);
        wrongIs(1, END);
        wrongIs(1, ELSE);
        wrongIs(1, IF);
        wrongIs(1, LOOP);
        wrongIs(1, IF, ELSE);
        wrongIs(2, IF, LOOP);
        wrongIs(1, IF, LOOP, END);
        wrongIs(1, LOOP, IF, END);
        wrongIs(1, IF, ELSE, LOOP, END);
        wrongIs(2, LOOP, ELSE, END);
        wrongIs(3, IF, LOOP, ELSE, END, END);
        wrongIs(3, IF, ELSE, ELSE, END);
        wrongIs(3, IF, END, ELSE);
        wrongIs(3, IF, END, END);
        wrongIs(2, LOOP, ELSE, ELSE, END);
        wrongIs(3, IF, END, END, ELSE, IF);
        wrongIs(4, LOOP, IF, END, ELSE, END);
        wrongIs(6, IF, IF, ELSE, END, ELSE, ELSE, END);
        int[] open = new int[31];
        java.util.Arrays.fill(open, LOOP);
        wrongIs(31, open);
        int[] nested = new int[30];
        java.util.Arrays.fill(nested, 0, 15, IF);
        java.util.Arrays.fill(nested, 15, 30, END);
        wrongIs(NONE, nested);
        nested[29] = ELSE;
        wrongIs(1, nested);
    }

    private static void nextIs(DropflagMill x, int line, int first, int second) {
        Due.is("ofLine(" + line + ", 3)", x.ofLine(line, 3), first);
        Due.is("ofLine(" + line + ", 4)", x.ofLine(line, 4), second);
    }

    /**
     * Term 2: "The NEXT LINES of an IF: the one behind it, and the one behind its ELSE, or, without one, its END
     * itself; of an ELSE: the END of its IF; of the END of a LOOP: the one behind that LOOP, and the one behind
     * itself", where nothing stands between them.
     */
    private static void t2NextLinesThatCoincide() {
        DropflagMill x = mill(new int[] {IF, 0, 0}, new int[] {END, 0, 0}, new int[] {IF, 0, 0}, new int[] {ELSE, 0, 0},
            new int[] {END, 0, 0}, new int[] {LOOP, 1, 0}, new int[] {END, 0, 0});
        nextIs(x, 0, 1, 1);
        nextIs(x, 1, 2, NONE);
        nextIs(x, 2, 3, 4);
        nextIs(x, 3, 4, NONE);
        nextIs(x, 4, 5, NONE);
        nextIs(x, 5, 6, NONE);
        nextIs(x, 6, 6, 7);
        DropflagMill y = mill(new int[] {LOOP, 2, 0}, new int[] {LOOP, 2, 0}, new int[] {END, 0, 0}, new int[] {END, 0, 0});
        nextIs(y, 1, 2, NONE);
        nextIs(y, 2, 2, 3);
        nextIs(y, 3, 1, 4);
    }

    /** Term 2: "of a PANIC: none; of all else the one behind it. Behind the last one is the END OF ALL." */
    private static void t2BehindTheLastOne() {
        DropflagMill x = mill(new int[] {PANIC, 0, 0});
        nextIs(x, 0, NONE, NONE);
        x.put(0, READ, 0, 0);
        nextIs(x, 0, 1, NONE);
        x.put(0, LOOP, 4, 0);
        nextIs(x, 0, NONE, NONE);
        x.add(END, 0, 0);
        nextIs(x, 0, 1, NONE);
        nextIs(x, 1, 1, 2);
        DropflagMill full = mill();
        for (int line = 0; line < 30; line++) {
            full.add(READ, 0, 0);
        }
        full.add(IF, 0, 0);
        full.add(END, 0, 0);
        nextIs(full, 30, 31, 31);
        nextIs(full, 31, 32, NONE);
        full.put(30, LOOP, 4, 0);
        nextIs(full, 31, 31, 32);
    }

    /** Promise 1: "Creates a mill without VARIABLES and LINES". */
    private static void p1NothingThereYet() {
        DropflagMill x = new DropflagMill();
        for (int what = 0; what <= 6; what++) {
            Due.is("many(" + what + ")", x.many(what), 0);
        }
        for (int what = 0; what <= 9; what++) {
            Due.is("ofRun(" + what + ")", x.ofRun(what), 0);
        }
        Due.is("meanRead()", x.meanRead(), 0.0);
        Due.leavesAll(x, STATE, "cut()", () -> x.cut());
        Due.leavesAll(x, INDEX, "put(0, 15, 0, 0)", () -> x.put(0, PANIC, 0, 0));
        Due.leavesAll(x, INDEX, "ofLine(0, 0)", () -> x.ofLine(0, 0));
        Due.leavesAll(x, INDEX, "state(0, 0)", () -> x.state(0, 0));
        Due.leavesAll(x, INDEX, "holds(0, 0)", () -> x.holds(0, 0));
        Due.leavesAll(x, INDEX, "isWanted(0, 0)", () -> x.isWanted(0, 0));
        Due.leavesAll(x, INDEX, "inTheWay(0, 0)", () -> x.inTheWay(0, 0));
        Due.leavesAll(x, INDEX, "ofLoan(0, 0)", () -> x.ofLoan(0, 0));
        Due.leavesAll(x, INDEX, "fault(0, 0)", () -> x.fault(0, 0));
        Due.leavesAll(x, INDEX, "ofVariable(0, 0)", () -> x.ofVariable(0, 0));
        Due.leavesAll(x, INDEX, "told(0, 0)", () -> x.told(0, 0));
        Due.leavesAll(x, INDEX, "faultsWithout(0)", () -> x.faultsWithout(0));
        Due.leavesAll(x, INDEX, "couldDrop(0, 0)", () -> x.couldDrop(0, 0));
        Due.leavesAll(x, INDEX, "leakedBy(0)", () -> x.leakedBy(0));
        Due.leavesAll(x, INDEX, "outcomeWith(0, 0)", () -> x.outcomeWith(0, 0));
        Due.leavesAll(x, ARGUMENT, "add(0, 0, 0)", () -> x.add(MAKE, 0, 0));
        Due.is("a LINE without a PLACE: add(15, 0, 0)", x.add(PANIC, 0, 0), 0);
    }

    /** Promise 2: "Throws IllegalArgumentException if kind is not 0 to 5". */
    private static void p2KindIsNot0To5() {
        DropflagMill x = new DropflagMill();
        for (int kind : new int[] {MIN, -2, -1, 6, 7, MAX}) {
            Due.leavesAll(x, ARGUMENT, "variable(" + kind + ")", () -> x.variable(kind));
        }
        for (int kind = 0; kind <= 5; kind++) {
            Due.is("a refused one takes no number: variable(" + kind + ")", x.variable(kind), kind);
            Due.is("ofVariable(" + kind + ", 0)", x.ofVariable(kind, 0), kind);
        }
    }

    /** Promise 2: "Throws IllegalStateException if there are 8", and, if the kind is wrong, too, the first named. */
    private static void p2ThereAre8() {
        DropflagMill x = new DropflagMill();
        for (int v = 0; v < 8; v++) {
            Due.is("variable " + v, x.variable(v == 7 ? PAIR : NUMBER), v);
        }
        for (int kind = 0; kind <= 5; kind++) {
            int each = kind;
            Due.leavesAll(x, STATE, "9th: variable(" + kind + ")", () -> x.variable(each));
        }
        Due.leavesAll(x, ARGUMENT, "9th: variable(-1)", () -> x.variable(-1));
        Due.leavesAll(x, ARGUMENT, "9th: variable(6)", () -> x.variable(6));
        Due.is("the last place: add(0, 23, 0)", x.add(MAKE, 23, 0), 0);
        Due.is("the last place: state(1, 23)", x.state(1, 23), 1);
        Due.leavesAll(x, ARGUMENT, "behind the last place: add(5, 24, 0)", () -> x.add(READ, 24, 0));
    }

    /** Promise 2: "Tells a VARIABLE", also behind LINES: what is asked of it is known at once. */
    private static void p2BehindLines() {
        DropflagMill x = Due.mill(new int[] {NUMBER}, new int[][] {{MAKE, 0, 1}, {PANIC, 0, 0}, {READ, 0, 0}});
        Due.is("variable(1)", x.variable(BOX), 1);
        Due.is("variable(3)", x.variable(SHARED), 2);
        int[] due = {2, 2, 0, 0};
        for (int line = 0; line <= 3; line++) {
            Due.is("state(" + line + ", 3)", x.state(line, 3), due[line]);
            Due.is("state(" + line + ", 6)", x.state(line, 6), due[line]);
            Due.is("holds(" + line + ", 2)", x.holds(line, 2), 0);
        }
        Due.is("many(0)", x.many(0), 3);
        Due.is("couldDrop(1, 3)", x.couldDrop(1, 3), 1);
    }

    /** Promise 3: "Throws IllegalArgumentException if sort is not 0 to 16" (a and b: the tests of term 2). */
    private static void p3SortIsNot0To16() {
        for (int sort : new int[] {MIN, -2, -1, 17, 18, MAX}) {
            fitsNot(sort, 0, 0);
            fitsNot(sort, 3, 3);
            fitsNot(sort, 15, 15);
        }
        fits(MAKE, 0, 0);
        fits(STEP, 0, 0);
    }

    /** Promise 3: "Throws IllegalStateException if there are 32". */
    private static void p3ThereAre32() {
        DropflagMill x = mill();
        for (int line = 0; line < 32; line++) {
            Due.is("add() of LINE " + line, x.add(MAKE, 0, line), line);
        }
        Due.fails(x, STATE, "33rd: add(0, 0, 32)", () -> x.add(MAKE, 0, 32));
        Due.fails(x, STATE, "33rd: add(15, 0, 0)", () -> x.add(PANIC, 0, 0));
        Due.fails(x, STATE, "33rd: add(3, 9, 0)", () -> x.add(BORROW, 9, 0));
        Due.is("many(1)", x.many(1), 32);
        Due.is("ofLine(31, 2)", x.ofLine(31, 2), 31);
        Due.is("cut()", x.cut(), MAKE);
        Due.is("room again: add(3, 9, 0)", x.add(BORROW, 9, 0), 31);
        Due.fails(x, STATE, "33rd: add(15, 0, 0)", () -> x.add(PANIC, 0, 0));
    }

    /** Promise 3: "or it would be the 17th one of the SORTS 3 and 4". */
    private static void p3SeventeenthLoan() {
        for (int loans = 0; loans <= 16; loans++) {
            DropflagMill x = mill();
            for (int loan = 0; loan < 16; loan++) {
                Due.is("loan " + loan, loan < loans ? x.add(BORROW, 9, 0) : x.add(LEND, 12, 0), loan);
            }
            Due.is("many(3)", x.many(3), 16);
            Due.fails(x, STATE, "17th: add(3, 9, 0)", () -> x.add(BORROW, 9, 0));
            Due.fails(x, STATE, "17th: add(4, 12, 0)", () -> x.add(LEND, 12, 0));
            Due.is("many(1)", x.many(1), 16);
            Due.is("no loan: add(5, 9, 0)", x.add(READ, 9, 0), 16);
            Due.is("ofLoan(15, 0)", x.ofLoan(15, 0), 15);
            Due.is("cut()", x.cut(), READ);
            Due.is("cut()", x.cut(), loans == 16 ? BORROW : LEND);
            Due.is("the 16th again: add(4, 12, 20)", x.add(LEND, 12, 20), 15);
        }
    }

    /** "If several exceptions apply, the one that is named first is thrown": promise 3. */
    private static void p3FirstNamedException() {
        DropflagMill x = mill();
        for (int line = 0; line < 16; line++) {
            x.add(BORROW, 9, 0);
        }
        Due.fails(x, ARGUMENT, "17th and wrong: add(3, 12, 0)", () -> x.add(BORROW, 12, 0));
        Due.fails(x, ARGUMENT, "17th and wrong: add(4, 12, 9)", () -> x.add(LEND, 12, 9));
        for (int line = 16; line < 32; line++) {
            x.add(READ, 0, 0);
        }
        Due.fails(x, ARGUMENT, "33rd and wrong: add(17, 0, 0)", () -> x.add(17, 0, 0));
        Due.fails(x, ARGUMENT, "33rd and wrong: add(0, 0, 100)", () -> x.add(MAKE, 0, 100));
        Due.fails(x, STATE, "33rd and 17th: add(3, 9, 0)", () -> x.add(BORROW, 9, 0));
    }

    /** Promise 4: "Throws IndexOutOfBoundsException if there is no such LINE": the END OF ALL is none. */
    private static void p4NoSuchLine() {
        DropflagMill x = mill(new int[] {MAKE, 0, 1}, new int[] {READ, 0, 0});
        for (int line : new int[] {MIN, -1, 2, 3, 32, MAX}) {
            Due.leavesAll(x, INDEX, "put(" + line + ", 15, 0, 0)", () -> x.put(line, PANIC, 0, 0));
        }
        Due.is("the first one: put(0, 0, 0, 2)", x.put(0, MAKE, 0, 2), MAKE);
        Due.is("the last one: put(1, 15, 0, 0)", x.put(1, PANIC, 0, 0), READ);
        Due.is("many(1)", x.many(1), 2);
        DropflagMill full = mill();
        for (int line = 0; line < 32; line++) {
            full.add(READ, 0, 0);
        }
        Due.is("in full: put(31, 15, 0, 0)", full.put(31, PANIC, 0, 0), READ);
        Due.fails(full, INDEX, "in full: put(32, 15, 0, 0)", () -> full.put(32, PANIC, 0, 0));
    }

    /** Promise 4: "Throws IllegalArgumentException if sort is not 0 to 16, or a or b is not as 2 says". */
    private static void p4WrongArguments() {
        DropflagMill x = mill(new int[] {MAKE, 0, 1}, new int[] {BORROW, 9, 0});
        for (int sort : new int[] {MIN, -1, 17, MAX}) {
            Due.fails(x, ARGUMENT, "put(1, " + sort + ", 0, 0)", () -> x.put(1, sort, 0, 0));
        }
        Due.fails(x, ARGUMENT, "put(1, 0, 0, 100)", () -> x.put(1, MAKE, 0, 100));
        Due.fails(x, ARGUMENT, "put(1, 0, 0, -100)", () -> x.put(1, MAKE, 0, -100));
        Due.fails(x, ARGUMENT, "put(1, 10, 5, 0)", () -> x.put(1, LOOP, 5, 0));
        Due.fails(x, ARGUMENT, "put(1, 5, 21, 0)", () -> x.put(1, READ, 21, 0));
        Due.is("ofLine(1, 0)", x.ofLine(1, 0), BORROW);
        Due.is("ofLine(1, 1)", x.ofLine(1, 1), 9);
    }

    /** Promise 4: "Throws IllegalStateException if there were 17 of the SORTS 3 and 4 then". */
    private static void p4SeventeenThen() {
        DropflagMill x = mill();
        for (int line = 0; line < 15; line++) {
            x.add(BORROW, 9, 0);
        }
        x.add(MAKE, 0, 1);
        x.add(MAKE, 0, 2);
        Due.is("the 16th: put(15, 4, 12, 0)", x.put(15, LEND, 12, 0), MAKE);
        Due.is("many(3)", x.many(3), 16);
        Due.fails(x, STATE, "the 17th: put(16, 3, 9, 0)", () -> x.put(16, BORROW, 9, 0));
        Due.fails(x, STATE, "the 17th: put(16, 4, 12, 0)", () -> x.put(16, LEND, 12, 0));
        Due.is("left as it was: ofLine(16, 2)", x.ofLine(16, 2), 2);
        for (int line = 17; line < 32; line++) {
            x.add(READ, 0, 0);
        }
        Due.fails(x, STATE, "the 17th of 32: put(31, 3, 9, 0)", () -> x.put(31, BORROW, 9, 0));
        for (int line = 31; line >= 17; line--) {
            Due.fails(x, STATE, "the 17th: put(16, 3, 9, 0)", () -> x.put(16, BORROW, 9, 0));
            x.cut();
            Due.fails(x, STATE, "the 17th: add(3, 9, 0)", () -> x.add(BORROW, 9, 0));
        }
        Due.is("one for another: put(0, 3, 9, 3)", x.put(0, BORROW, 9, 3), BORROW);
        Due.is("one for another: put(15, 3, 9, 3)", x.put(15, BORROW, 9, 3), LEND);
        Due.is("one for another: put(1, 4, 12, 3)", x.put(1, LEND, 12, 3), BORROW);
        Due.is("one less: put(1, 5, 0, 0)", x.put(1, READ, 0, 0), LEND);
        Due.is("the 16th again: put(16, 3, 9, 0)", x.put(16, BORROW, 9, 0), MAKE);
        Due.is("ofLoan(15, 0)", x.ofLoan(15, 0), 16);
    }

    /** "If several exceptions apply, the one that is named first is thrown": promise 4. */
    private static void p4FirstNamedException() {
        DropflagMill x = mill();
        for (int line = 0; line < 16; line++) {
            x.add(BORROW, 9, 0);
        }
        x.add(READ, 0, 0);
        Due.fails(x, INDEX, "put(17, 3, 9, 0)", () -> x.put(17, BORROW, 9, 0));
        Due.fails(x, INDEX, "put(-1, 17, 0, 0)", () -> x.put(-1, 17, 0, 0));
        Due.fails(x, INDEX, "put(17, 3, 12, 0)", () -> x.put(17, BORROW, 12, 0));
        Due.fails(x, ARGUMENT, "put(16, 3, 12, 0)", () -> x.put(16, BORROW, 12, 0));
        Due.fails(x, STATE, "put(16, 3, 9, 0)", () -> x.put(16, BORROW, 9, 0));
    }

    /** Promise 5: "Throws IllegalStateException if there is none". */
    private static void p5ThereIsNone() {
        DropflagMill x = mill(new int[] {MAKE, 0, 1}, new int[] {PANIC, 0, 0});
        Due.is("cut()", x.cut(), PANIC);
        Due.is("the last one: cut()", x.cut(), MAKE);
        Due.leavesAll(x, STATE, "cut()", () -> x.cut());
        Due.leavesAll(x, STATE, "cut() again", () -> x.cut());
        Due.is("many(1)", x.many(1), 0);
        Due.is("many(0)", x.many(0), 7);
        Due.is("from 0 on: add(5, 0, 0)", x.add(READ, 0, 0), 0);
    }

    /** Promise 6: "Throws IndexOutOfBoundsException if there is no such LINE", ahead of the one for what. */
    private static void p6NoSuchLine() {
        DropflagMill x = mill(new int[] {MAKE, 0, 1}, new int[] {READ, 0, 0});
        for (int line : new int[] {MIN, -1, 2, 3, 32, MAX}) {
            for (int what : new int[] {-1, 0, 3, 5, 6}) {
                Due.fails(x, INDEX, "ofLine(" + line + ", " + what + ")", () -> x.ofLine(line, what));
            }
        }
        Due.is("ofLine(1, 0)", x.ofLine(1, 0), READ);
        x.cut();
        Due.fails(x, INDEX, "behind cut(): ofLine(1, 0)", () -> x.ofLine(1, 0));
    }

    /** Promise 6: "Throws IllegalArgumentException if what is not 0 to 5". */
    private static void p6WhatIsNot0To5() {
        DropflagMill x = mill(new int[] {PANIC, 0, 0}, new int[] {MAKE, 7, -99});
        for (int what : new int[] {MIN, -1, 6, 7, MAX}) {
            Due.leavesAll(x, ARGUMENT, "ofLine(0, " + what + ")", () -> x.ofLine(0, what));
        }
        Due.is("ofLine(1, 0)", x.ofLine(1, 0), MAKE);
        Due.is("ofLine(1, 1)", x.ofLine(1, 1), 7);
        Due.is("ofLine(1, 2)", x.ofLine(1, 2), -99);
        Due.is("ofLine(1, 5)", x.ofLine(1, 5), 1);
    }

    /** Promise 6: "NONE; the END OF ALL is as many as there are LINES". */
    private static void p6EndOfAllIsAsManyAsThereAreLines() {
        DropflagMill x = mill();
        for (int line = 0; line < 32; line++) {
            x.add(READ, 0, 0);
            nextIs(x, line, line + 1, NONE);
        }
        x.cut();
        nextIs(x, 30, 31, NONE);
    }

    /** Promise 6: "NONE, too, if it is not WHOLE", "(0, if it is not WHOLE)". */
    private static void p6NotWhole() {
        DropflagMill x = mill(new int[] {LOOP, 1, 0}, new int[] {END, 0, 0}, new int[] {PANIC, 0, 0}, new int[] {READ, 0, 0});
        nextIs(x, 0, 1, NONE);
        nextIs(x, 1, 1, 2);
        Due.is("ofLine(3, 5)", x.ofLine(3, 5), 1);
        x.add(END, 0, 0);
        for (int line = 0; line <= 4; line++) {
            nextIs(x, line, NONE, NONE);
            Due.is("ofLine(" + line + ", 5)", x.ofLine(line, 5), 0);
        }
        Due.is("ofLine(2, 0)", x.ofLine(2, 0), PANIC);
        x.cut();
        nextIs(x, 1, 1, 2);
        Due.is("ofLine(3, 5)", x.ofLine(3, 5), 1);
    }

    private static void deadIs(int... dead) {
        int lines = dead.length / 2;
        DropflagMill x = mill();
        for (int line = 0; line < lines; line++) {
            int sort = dead[2 * line];
            x.add(sort, sort == LOOP ? 1 : 0, 0);
        }
        for (int line = 0; line < lines; line++) {
            String call = "ofLine(" + line + ", 5) of " + java.util.Arrays.toString(dead);
            Due.is(call, x.ofLine(line, 5), dead[2 * line + 1]);
        }
    }

    /** Promise 6: "5 1 if it is DEAD"; term 3: "a LINE that no way comes to is DEAD". Each SORT with 1 if it is. */
    private static void p6Dead() {
        deadIs(PANIC, 0, READ, 1);
        deadIs(IF, 0, PANIC, 0, READ, 1, END, 0, READ, 0);
        deadIs(IF, 0, PANIC, 0, ELSE, 1, READ, 0, END, 0);
        deadIs(IF, 0, READ, 0, ELSE, 0, PANIC, 0, END, 0);
        deadIs(IF, 0, PANIC, 0, ELSE, 1, PANIC, 0, END, 1, READ, 1);
        deadIs(LOOP, 0, PANIC, 0, END, 1, READ, 1);
        deadIs(LOOP, 0, IF, 0, PANIC, 0, END, 0, END, 0, READ, 0);
        deadIs(PANIC, 0, LOOP, 1, READ, 1, END, 1, READ, 1);
        deadIs(PANIC, 0, PANIC, 1, IF, 1, END, 1);
    }

    /** "A method that throws an exception changes nothing": promises 2 to 6, in a mill with all there is. */
    private static void refusedCallsChangeNothing() {
        DropflagMill x = Due.mill(new int[] {NUMBER, PAIR, SHARED}, new int[][] {
            {MAKE, 0, 1}, {IF, 0, 0}, {MAKE, 4, -2}, {END, 0, 0}, {BORROW, 6, 0}, {READ, 6, 0}, {MAKE, 3, 5}});
        x.run();
        Due.leavesAll(x, ARGUMENT, "variable(6)", () -> x.variable(6));
        Due.leavesAll(x, ARGUMENT, "add(1, 4, 3)", () -> x.add(MOVE, 4, 3));
        Due.leavesAll(x, INDEX, "put(7, 5, 0, 0)", () -> x.put(7, READ, 0, 0));
        Due.leavesAll(x, ARGUMENT, "put(4, 3, 0, 6)", () -> x.put(4, BORROW, 0, 6));
        Due.leavesAll(x, INDEX, "ofLine(7, 0)", () -> x.ofLine(7, 0));
        Due.leavesAll(x, ARGUMENT, "ofLine(6, 6)", () -> x.ofLine(6, 6));
    }
}
