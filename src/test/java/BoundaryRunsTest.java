/**
 * Boundary cases of RUNS: the term 6, and the promises 14 to 16 and 18. Each test names the promise, or the term,
 * and the sentence of the document.
 */
public final class BoundaryRunsTest implements Words {
    public static void main(String[] args) {
        t2PartsWithBAndOneMore();
        t1FirstAndLastVariable();
        t2AboveZero();
        t2RoundsOfALoop();
        t6BelowZero();
        t6MoveToItself();
        t6PartZeroThenPartOne();
        t6CountsToZero();
        t6LinkedToNone();
        t6LinkedToItself();
        t6ReadsAndWritesOfAPair();
        t6HeldTillLetGo();
        t6PanicAndNothingElse();
        t6DoneToItsEnd();
        t6AnyOtherOneAborts();
        t6FiveHundredSteps();
        t6PanicInTheLastStep();
        t6UnwindingTakesNoSteps();
        t6Leaked();
        t6GreatNumbers();
        p14ThereAreFaults();
        p14NothingToRun();
        p15ZeroAheadOfAll();
        p15WhatIsNot0To9();
        p15LineOfTheFirstPanic();
        p15HowManyRuns();
        p16First60AreKept();
        p16ThereIsNone();
        p16WhatIsNot0To2();
        p16AsManyAsThereAreLines();
        p18NoneToldByRead();
        p18KeptNotCut();
        refusedCallsChangeNothing();
        Due.end();
    }

    private static DropflagMill mill(int[] kinds, int[]... lines) {
        return Due.mill(kinds, lines);
    }

    private static int[] kinds(int... kinds) {
        return kinds;
    }

    private static int[] line(int sort, int a, int b) {
        return new int[] {sort, a, b};
    }

    private static int[] line(int sort, int a) {
        return new int[] {sort, a, 0};
    }

    private static int[] line(int sort) {
        return new int[] {sort, 0, 0};
    }

    private static int[] told(int sort, int number, int line) {
        return new int[] {sort, number, line};
    }

    /** A RUN ends so, with the first PANIC there (NONE), LEAKED so many, and tells this and nothing more. */
    private static void runIs(String program, DropflagMill x, int outcome, int panic, int leaked, int[]... story) {
        Due.is(program + ": run()", x.run(), outcome);
        Due.is(program + ": ofRun(0)", x.ofRun(0), outcome);
        Due.is(program + ": ofRun(7)", x.ofRun(7), leaked);
        Due.is(program + ": ofRun(8)", x.ofRun(8), panic);
        Due.is(program + ": ofRun(2)", x.ofRun(2), story.length);
        int[] sorts = new int[3];
        for (int k = 0; k < story.length && k < x.ofRun(2); k++) {
            sorts[story[k][0]]++;
            for (int what = 0; what <= 2; what++) {
                Due.is(program + ": told(" + k + ", " + what + ")", x.told(k, what), story[k][what]);
            }
        }
        Due.is(program + ": ofRun(5)", x.ofRun(5), sorts[OF_BOX]);
        Due.is(program + ": ofRun(6)", x.ofRun(6), sorts[OF_NODE]);
        Due.fails(x, INDEX, program + ": told() behind the last one", () -> x.told(story.length, 0));
    }

    /** Term 2: "MAKE .. (-99 to 99; a PAIR: its PARTS with b and b + 1)": the greatest b, and the least. */
    private static void t2PartsWithBAndOneMore() {
        DropflagMill x = mill(kinds(PAIR, BOX), line(MAKE, 0, 99), line(READ, 2), line(READ, 1), line(MAKE, 3, 99));
        runIs("b is 99", x, ENDED, NONE, 0, told(BY_READ, 100, 1), told(BY_READ, 99, 2), told(OF_BOX, 99, 4),
            told(OF_BOX, 99, 4), told(OF_BOX, 100, 4));
        DropflagMill y = mill(kinds(PAIR), line(MAKE, 0, -99), line(READ, 0), line(READ, 1), line(READ, 2), line(WRITE, 1, 0),
            line(WRITE, 2, 0));
        runIs("b is -99", y, ENDED, NONE, 0, told(BY_READ, -197, 1), told(BY_READ, -99, 2), told(BY_READ, -98, 3),
            told(OF_BOX, 0, 6), told(OF_BOX, 0, 6));
        Due.is("made: ofRun(3)", y.ofRun(3), 2);
        DropflagMill z = mill(kinds(PAIR), line(MAKE, 0, -1));
        runIs("b is -1", z, PANICKED, 1, 0, told(OF_BOX, -1, 1), told(OF_BOX, 0, 1));
        z.put(0, MAKE, 0, -2);
        runIs("b is -2", z, ABORTED, 1, 0, told(OF_BOX, -2, 1), told(OF_BOX, -1, 1));
    }

    /** Term 1: "VARIABLES: at most 8": the PLACES of the last one, and of the first one, in a RUN. */
    private static void t1FirstAndLastVariable() {
        DropflagMill x = mill(kinds(PAIR, PAIR, PAIR, PAIR, PAIR, PAIR, COUNTED, PAIR), line(MAKE, 0, 1), line(MAKE, 21, 11),
            line(MAKE, 18, 7), line(MOVE, 1, 23), line(WRITE, 22, 12), line(MAKE, 23, 5), line(READ, 22), line(READ, 23),
            line(READ, 21), line(READ, 0));
        runIs("8 VARIABLES", x, ENDED, NONE, 0, told(OF_BOX, 1, 3), told(BY_READ, 12, 6), told(BY_READ, 5, 7),
            told(BY_READ, 17, 8), told(BY_READ, 14, 9), told(OF_BOX, 12, 10), told(OF_BOX, 5, 10), told(OF_NODE, 7, 10),
            told(OF_BOX, 12, 10), told(OF_BOX, 2, 10));
        Due.is("ofRun(3)", x.ofRun(3), 5);
        Due.is("ofRun(4)", x.ofRun(4), 1);
        // all that 8 PAIRS have
        DropflagMill y = mill(kinds(PAIR, PAIR, PAIR, PAIR, PAIR, PAIR, PAIR, PAIR));
        for (int v = 0; v < 8; v++) {
            y.add(MAKE, 3 * v, 10 * v);
        }
        Due.is("run()", y.run(), ENDED);
        Due.is("ofRun(5)", y.ofRun(5), 16);
        for (int k = 0; k < 16; k++) {
            Due.is("told(" + k + ", 1)", y.told(k, 1), 10 * (7 - k / 2) + k % 2);
        }
    }

    /** Term 2: "IF the NUMBER a is above 0". */
    private static void t2AboveZero() {
        for (int number : new int[] {-99, -1, 0, 1, 99}) {
            DropflagMill x = mill(kinds(NUMBER), line(MAKE, 0, number), line(IF, 0), line(READ, 0), line(ELSE), line(END));
            Due.is("run() with " + number, x.run(), ENDED);
            Due.is("ofRun(2) with " + number, x.ofRun(2), number > 0 ? 1 : 0);
            Due.is("ofRun(1) with " + number, x.ofRun(1), number > 0 ? 5 : 3);
            x.put(3, READ, 0, 0);
            Due.is("without ELSE: run() with " + number, x.run(), ENDED);
            Due.is("without ELSE: ofRun(1) with " + number, x.ofRun(1), number > 0 ? 5 : 3);
        }
    }

    /** Term 6, with 2: "a LOOP goes round as often as it says" (1 to 4), and anew as it is come to again. */
    private static void t2RoundsOfALoop() {
        for (int times = 1; times <= 4; times++) {
            DropflagMill x = mill(kinds(NUMBER), line(MAKE, 0, 0), line(LOOP, times), line(STEP, 0, 1), line(END),
                line(READ, 0));
            runIs(times + " times", x, ENDED, NONE, 0, told(BY_READ, times, 4));
            Due.is("ofRun(1)", x.ofRun(1), 3 + 2 * times);
            DropflagMill y = mill(kinds(NUMBER), line(MAKE, 0, 0), line(LOOP, 4), line(LOOP, times), line(STEP, 0, 1),
                line(END), line(END), line(READ, 0));
            runIs("4 times " + times + " times", y, ENDED, NONE, 0, told(BY_READ, 4 * times, 6));
            DropflagMill z = mill(kinds(NUMBER), line(LOOP, times), line(END));
            runIs("an empty LOOP " + times + " times", z, ENDED, NONE, 0);
            Due.is("ofRun(1)", z.ofRun(1), 1 + times);
        }
    }

    /** Term 6: "To DROP a BOX: it is told, with its number; if that is below 0, it PANICS": not at 0, nor a NODE. */
    private static void t6BelowZero() {
        for (int number : new int[] {-99, -1, 0, 1}) {
            DropflagMill x = mill(kinds(BOX), line(MAKE, 0, number), line(DROP, 0));
            runIs("a BOX of " + number, x, number < 0 ? PANICKED : ENDED, number < 0 ? 1 : NONE, 0,
                told(OF_BOX, number, 1));
            DropflagMill y = mill(kinds(PAIR), line(MAKE, 2, number), line(DROP, 2));
            runIs("a PART of " + number, y, number < 0 ? PANICKED : ENDED, number < 0 ? 1 : NONE, 0,
                told(OF_BOX, number, 1));
            DropflagMill z = mill(kinds(COUNTED), line(MAKE, 0, number), line(DROP, 0));
            runIs("a NODE of " + number, z, ENDED, NONE, 0, told(OF_NODE, number, 1));
            DropflagMill n = mill(kinds(NUMBER), line(MAKE, 0, number), line(MAKE, 0, number));
            runIs("a NUMBER of " + number, n, ENDED, NONE, 0);
        }
    }

    /** Term 6: "a MOVE of a PLACE to itself DROPS nothing". */
    private static void t6MoveToItself() {
        int[] kinds = kinds(BOX, PAIR, COUNTED, NUMBER, ALONE);
        DropflagMill x = mill(kinds, line(MAKE, 0, -1), line(MAKE, 3, -5), line(MAKE, 6, 7), line(MAKE, 9, 1),
            line(LEND, 12, 9), line(MOVE, 0, 0), line(MOVE, 3, 3), line(MOVE, 4, 4), line(MOVE, 5, 5), line(MOVE, 6, 6),
            line(MOVE, 12, 12), line(WRITE, 12, 4), line(READ, 9), line(READ, 3), line(WRITE, 4, 0), line(WRITE, 5, 0));
        runIs("MOVES to the same PLACE", x, PANICKED, 16, 0, told(BY_READ, 4, 12), told(BY_READ, -9, 13),
            told(OF_NODE, 7, 16), told(OF_BOX, 0, 16), told(OF_BOX, 0, 16), told(OF_BOX, -1, 16));
    }

    /** Term 6: "DROPPED (PART 0, then PART 1)", also if one PART has nothing any more. */
    private static void t6PartZeroThenPartOne() {
        int[] kinds = kinds(PAIR, BOX);
        DropflagMill x = mill(kinds, line(MAKE, 0, 1), line(MAKE, 0, 11), line(DROP, 0));
        runIs("both", x, ENDED, NONE, 0, told(OF_BOX, 1, 1), told(OF_BOX, 2, 1), told(OF_BOX, 11, 2), told(OF_BOX, 12, 2));
        x.put(1, DROP, 1, 0);
        x.put(2, MAKE, 0, 21);
        runIs("PART 1 alone is left", x, ENDED, NONE, 0, told(OF_BOX, 1, 1), told(OF_BOX, 2, 2), told(OF_BOX, 21, 3),
            told(OF_BOX, 22, 3));
        x.put(1, MOVE, 3, 2);
        runIs("PART 0 alone is left", x, ENDED, NONE, 0, told(OF_BOX, 1, 2), told(OF_BOX, 2, 3), told(OF_BOX, 21, 3),
            told(OF_BOX, 22, 3));
        x.put(2, READ, 1, 0);
        runIs("PART 0 at the END OF ALL", x, ENDED, NONE, 0, told(BY_READ, 1, 2), told(OF_BOX, 2, 3), told(OF_BOX, 1, 3));
        x.put(2, DROP, 1, 0);
        runIs("neither at the END OF ALL", x, ENDED, NONE, 0, told(OF_BOX, 1, 2), told(OF_BOX, 2, 3));
    }

    /** Term 6: "a COUNT (1 as it is made)", "it counts 1 less; at 0 it is told". */
    private static void t6CountsToZero() {
        int[] kinds = kinds(COUNTED, COUNTED, COUNTED);
        DropflagMill x = mill(kinds, line(MAKE, 0, 1), line(DROP, 0));
        runIs("1", x, ENDED, NONE, 0, told(OF_NODE, 1, 1));
        DropflagMill y = mill(kinds, line(MAKE, 0, 1), line(COPY, 3, 0), line(COPY, 6, 3), line(DROP, 3), line(DROP, 0),
            line(READ, 6), line(DROP, 6), line(MAKE, 0, 2));
        runIs("3, and down again", y, ENDED, NONE, 0, told(BY_READ, 1, 5), told(OF_NODE, 1, 6), told(OF_NODE, 2, 8));
        DropflagMill z = mill(kinds, line(MAKE, 0, 1), line(COPY, 0, 0), line(COPY, 3, 0), line(COPY, 3, 0), line(COPY, 0, 3),
            line(DROP, 0), line(READ, 3), line(DROP, 3));
        runIs("COPIES of the same NODE", z, ENDED, NONE, 0, told(BY_READ, 1, 6), told(OF_NODE, 1, 7));
        Due.is("ofRun(4)", z.ofRun(4), 1);
        Due.is("ofRun(6)", z.ofRun(6), 1);
    }

    /** Term 6: "NODES .. with a number, a COUNT, and a LINK, or none": at 0 what it is LINKED to is LET DOWN. */
    private static void t6LinkedToNone() {
        DropflagMill x = mill(kinds(COUNTED, COUNTED), line(MAKE, 0, 1), line(MAKE, 3, 2), line(LINK, 0, 3), line(DROP, 3),
            line(DROP, 0));
        runIs("a chain of two", x, ENDED, NONE, 0, told(OF_NODE, 1, 4), told(OF_NODE, 2, 4));
        x.put(2, READ, 0, 0);
        runIs("linked to none", x, ENDED, NONE, 0, told(BY_READ, 1, 2), told(OF_NODE, 2, 3), told(OF_NODE, 1, 4));
        // a NODE of a RUN ahead is not linked to what that one was
        Due.is("again: run()", x.run(), ENDED);
        Due.is("again: ofRun(6)", x.ofRun(6), 2);
        // the longest chain that 500 STEPS leave room for: each new one is LINKED to the one ahead
        DropflagMill y = mill(kinds(COUNTED, COUNTED), line(MAKE, 0, 0), line(LOOP, 4), line(LOOP, 4), line(LOOP, 4),
            line(MAKE, 3, 1), line(LINK, 3, 0), line(COPY, 0, 3), line(END), line(END), line(END), line(DROP, 3));
        Due.is("a chain: run()", y.run(), ENDED);
        Due.is("a chain: ofRun(4)", y.ofRun(4), 65);
        Due.is("a chain: ofRun(6)", y.ofRun(6), 65);
        Due.is("a chain: ofRun(2)", y.ofRun(2), 65);
        Due.is("a chain: told(59, 2)", y.told(59, 2), 11);
    }

    /** Term 6: "the NODE of a is LINKED to it; then the one that was there ahead is LET DOWN", if it is the same. */
    private static void t6LinkedToItself() {
        int[] kinds = kinds(COUNTED, COUNTED);
        DropflagMill x = mill(kinds, line(MAKE, 0, 1), line(LINK, 0, 0));
        runIs("to itself", x, ENDED, NONE, 1);
        x.add(LINK, 0, 0);
        runIs("to itself again", x, ENDED, NONE, 1);
        x.add(MAKE, 3, 2);
        x.add(LINK, 0, 3);
        runIs("to another one then", x, ENDED, NONE, 0, told(OF_NODE, 1, 5), told(OF_NODE, 2, 5));
        x.add(LINK, 0, 3);
        runIs("to the same other one again", x, ENDED, NONE, 0, told(OF_NODE, 1, 6), told(OF_NODE, 2, 6));
        x.add(LINK, 3, 0);
        runIs("a ring of two", x, ENDED, NONE, 2);
        // what a LINE ahead let go of has nothing to do with what LINK lets down
        DropflagMill y = mill(kinds(COUNTED, COUNTED, NUMBER, BOX), line(MAKE, 0, 1), line(MAKE, 3, 2), line(LINK, 0, 3), line(DROP, 3),
            line(MAKE, 3, 3), line(MAKE, 6, 1), line(MAKE, 6, 2), line(LINK, 0, 3), line(LINK, 0, 3), line(MAKE, 9, 1),
            line(MAKE, 9, 2), line(LINK, 0, 0));
        runIs("LINKS anew behind other LINES", y, ENDED, NONE, 1, told(OF_NODE, 2, 7), told(OF_BOX, 1, 10), told(OF_BOX, 2, 12),
            told(OF_NODE, 3, 12));
    }

    /** Term 6: "of a PAIR both together", "what an ALONE has a LOAN of (of a PAIR both) becomes b". */
    private static void t6ReadsAndWritesOfAPair() {
        DropflagMill x = mill(kinds(PAIR, ALONE, SHARED), line(MAKE, 0, 99), line(LEND, 3, 0), line(READ, 3),
            line(WRITE, 3, -99), line(READ, 3), line(BORROW, 6, 0), line(READ, 6), line(LEND, 3, 2), line(WRITE, 3, 99),
            line(READ, 3), line(READ, 0), line(WRITE, 1, 0));
        runIs("a PAIR that is lent", x, ENDED, NONE, 0, told(BY_READ, 199, 2), told(BY_READ, -198, 4), told(BY_READ, -198, 6),
            told(BY_READ, 99, 9), told(BY_READ, 0, 10), told(OF_BOX, 0, 12), told(OF_BOX, 99, 12));
    }

    /** Term 6: "HOLD: PANIC, if the NODE is HELD; otherwise it is HELD till LET GO". */
    private static void t6HeldTillLetGo() {
        int[] kinds = kinds(COUNTED, COUNTED, COUNTED);
        DropflagMill x = mill(kinds, line(MAKE, 0, 1), line(COPY, 3, 0), line(HOLD, 0), line(HOLD, 3));
        runIs("HELD by way of another one", x, PANICKED, 3, 0, told(OF_NODE, 1, 4));
        x.put(3, LET_GO, 3, 0);
        runIs("LET GO by way of another one", x, ENDED, NONE, 0, told(OF_NODE, 1, 4));
        x.add(LET_GO, 3, 0);
        x.add(HOLD, 3, 0);
        runIs("LET GO twice", x, ENDED, NONE, 0, told(OF_NODE, 1, 6));
        x.add(HOLD, 0, 0);
        runIs("HELD again", x, PANICKED, 6, 0, told(OF_NODE, 1, 7));
        DropflagMill y = mill(kinds, line(MAKE, 0, 1), line(MAKE, 3, 2), line(HOLD, 0), line(HOLD, 3), line(LINK, 3, 0),
            line(LET_GO, 3), line(READ, 3));
        runIs("two NODES", y, ENDED, NONE, 0, told(BY_READ, 2, 6), told(OF_NODE, 2, 7), told(OF_NODE, 1, 7));
        y.put(6, READ, 0, 0);
        runIs("the other one of two", y, PANICKED, 6, 0, told(OF_NODE, 2, 7), told(OF_NODE, 1, 7));
        DropflagMill z = mill(kinds, line(MAKE, 0, 1), line(HOLD, 0), line(MAKE, 0, 2), line(HOLD, 0), line(DROP, 0));
        runIs("a new NODE is not HELD", z, ENDED, NONE, 0, told(OF_NODE, 1, 2), told(OF_NODE, 2, 4));
    }

    /** Term 6: "READ and WRITE of a NODE that is HELD: PANIC, and nothing else": nothing told, nothing written. */
    private static void t6PanicAndNothingElse() {
        DropflagMill x = mill(kinds(COUNTED), line(MAKE, 0, 1), line(HOLD, 0), line(WRITE, 0, 9));
        runIs("WRITE", x, PANICKED, 2, 0, told(OF_NODE, 1, 3));
        x.put(2, READ, 0, 0);
        runIs("READ", x, PANICKED, 2, 0, told(OF_NODE, 1, 3));
        Due.is("meanRead()", x.meanRead(), 0.0);
        x.put(2, LET_GO, 0, 0);
        x.add(WRITE, 0, 9);
        runIs("WRITE behind LET GO", x, ENDED, NONE, 0, told(OF_NODE, 9, 4));
    }

    /** Term 6: "The first PANIC of a RUN, wherever: the LINE is done to its end, and so is the END OF ALL". */
    private static void t6DoneToItsEnd() {
        int[] kinds = kinds(BOX, PAIR, COUNTED);
        DropflagMill x = mill(kinds, line(MAKE, 0, 5), line(MAKE, 3, -1), line(MAKE, 6, 3), line(MAKE, 3, 8), line(READ, 0));
        runIs("in a MAKE", x, PANICKED, 3, 0, told(OF_BOX, -1, 3), told(OF_BOX, 0, 3), told(OF_NODE, 3, 5), told(OF_BOX, 8, 5),
            told(OF_BOX, 9, 5), told(OF_BOX, 5, 5));
        x.put(3, MOVE, 4, 0);
        x.put(4, READ, 5, 0);
        runIs("in a MOVE", x, PANICKED, 3, 0, told(OF_BOX, -1, 3), told(OF_NODE, 3, 5), told(OF_BOX, 5, 5), told(OF_BOX, 0, 5));
        x.put(3, READ, 5, 0);
        runIs("at the END OF ALL", x, PANICKED, 5, 0, told(BY_READ, 0, 3), told(BY_READ, 0, 4), told(OF_NODE, 3, 5),
            told(OF_BOX, -1, 5), told(OF_BOX, 0, 5), told(OF_BOX, 5, 5));
    }

    /** Term 6: "any other one: it ABORTS: nothing more is done, nor told". */
    private static void t6AnyOtherOneAborts() {
        int[] kinds = kinds(BOX, PAIR, COUNTED, BOX);
        int[][] start = {line(MAKE, 0, 5), line(MAKE, 3, -3), line(MAKE, 6, 3), line(MAKE, 9, 1)};
        DropflagMill x = mill(kinds, start);
        runIs("both at the END OF ALL", x, ABORTED, 4, 1, told(OF_BOX, 1, 4), told(OF_NODE, 3, 4), told(OF_BOX, -3, 4),
            told(OF_BOX, -2, 4));
        x.add(DROP, 3, 0);
        x.add(READ, 0, 0);
        runIs("both in a LINE", x, ABORTED, 4, 3, told(OF_BOX, -3, 4), told(OF_BOX, -2, 4));
        Due.is("STEPS", x.ofRun(1), 5);
        x.put(4, PANIC, 0, 0);
        runIs("the PANIC, and PART 0 behind it", x, ABORTED, 4, 2, told(OF_BOX, 1, 6), told(OF_NODE, 3, 6), told(OF_BOX, -3, 6));
        x.put(1, MAKE, 4, 0);
        x.put(5, PANIC, 0, 0);
        runIs("the second PANIC is not come to", x, PANICKED, 4, 0, told(OF_BOX, 1, 6), told(OF_NODE, 3, 6), told(OF_BOX, 0, 6),
            told(OF_BOX, 5, 6));
        DropflagMill y = mill(kinds, line(MAKE, 0, -5), line(MAKE, 9, -6), line(MAKE, 4, 2));
        runIs("two VARIABLES at the END OF ALL", y, ABORTED, 3, 0, told(OF_BOX, -6, 3), told(OF_BOX, 2, 3), told(OF_BOX, -5, 3));
    }

    /** LINES that begin so many STEPS (from 490 on): a MAKE, LOOPS in one another of 489 STEPS in all, and READS. */
    private static DropflagMill withSteps(int steps) {
        DropflagMill x = mill(kinds(NUMBER, BOX), line(MAKE, 0, 1), line(LOOP, 4), line(LOOP, 4), line(LOOP, 4));
        for (int k = 0; k < 6; k++) {
            x.add(READ, 0, 0);
        }
        x.add(END, 0, 0);
        x.add(END, 0, 0);
        x.add(END, 0, 0);
        for (int step = 490; step < steps; step++) {
            x.add(READ, 0, 0);
        }
        return x;
    }

    /** Term 6: "as more than 500 would be, the RUN ends there, and nothing more is done". */
    private static void t6FiveHundredSteps() {
        for (int steps = 498; steps <= 502; steps++) {
            DropflagMill x = withSteps(steps);
            boolean isTooMuch = steps > 500;
            Due.is(steps + ": run()", x.run(), isTooMuch ? TOO_LONG : ENDED);
            Due.is(steps + ": ofRun(0)", x.ofRun(0), isTooMuch ? TOO_LONG : ENDED);
            Due.is(steps + ": ofRun(1)", x.ofRun(1), Math.min(steps, 500));
            Due.is(steps + ": ofRun(8)", x.ofRun(8), NONE);
        }
        DropflagMill y = withSteps(500);
        y.put(0, MAKE, 0, 0);
        y.add(MAKE, 3, -1);
        Due.is("501, a MAKE as the last one: run()", y.run(), TOO_LONG);
        Due.is("it is not begun: ofRun(3)", y.ofRun(3), 0);
        y.put(y.many(1) - 1, PANIC, 0, 0);
        Due.is("501, a PANIC as the last one: run()", y.run(), TOO_LONG);
        Due.is("ofRun(8)", y.ofRun(8), NONE);
        // BOXES that are there as the RUN ends so are not DROPPED
        DropflagMill z = mill(kinds(BOX, COUNTED, NUMBER), line(MAKE, 0, -1), line(MAKE, 3, 1), line(LOOP, 4), line(LOOP, 4),
            line(LOOP, 4), line(LOOP, 4), line(END), line(END), line(END), line(END));
        Due.is("4 * 4 * 4 * 4 rounds: run()", z.run(), PANICKED);
        Due.is("ofRun(1)", z.ofRun(1), 2 + 1 + 4 * (1 + 4 * (1 + 4 * (1 + 4 + 1) + 1) + 1));
        z.put(6, MAKE, 6, 1);
        z.put(7, WRITE, 6, 1);
        z.add(END, 0, 0);
        z.add(END, 0, 0);
        runIs("too many rounds", z, TOO_LONG, NONE, 2);
        Due.is("ofRun(1)", z.ofRun(1), 500);
    }

    /** Term 6: "The first PANIC of a RUN, wherever": also in the LINE of the 500th of the STEPS. */
    private static void t6PanicInTheLastStep() {
        DropflagMill x = withSteps(499);
        x.add(PANIC, 0, 0);
        Due.is("the 500th: run()", x.run(), PANICKED);
        Due.is("ofRun(1)", x.ofRun(1), 500);
        Due.is("ofRun(8)", x.ofRun(8), x.many(1) - 1);
        x.add(READ, 0, 0);
        Due.is("the 500th, and one behind it: run()", x.run(), PANICKED);
        Due.is("ofRun(1)", x.ofRun(1), 500);
        DropflagMill y = withSteps(499);
        y.add(MAKE, 3, -1);
        Due.is("a PANIC at the END OF ALL, behind 500: run()", y.run(), PANICKED);
        Due.is("ofRun(1)", y.ofRun(1), 500);
        Due.is("ofRun(8)", y.ofRun(8), y.many(1));
    }

    /** Term 6: "STEPS: LINES that are begun (each of them)": DROPS at the END OF ALL and behind a PANIC are none. */
    private static void t6UnwindingTakesNoSteps() {
        DropflagMill x = mill(kinds(PAIR, PAIR, BOX), line(MAKE, 0, 1), line(MAKE, 3, 1), line(MAKE, 6, 1));
        Due.is("run()", x.run(), ENDED);
        Due.is("ofRun(1)", x.ofRun(1), 3);
        Due.is("ofRun(5)", x.ofRun(5), 5);
        x.add(PANIC, 0, 0);
        x.add(READ, 0, 0);
        Due.is("run()", x.run(), PANICKED);
        Due.is("the PANIC is begun: ofRun(1)", x.ofRun(1), 4);
        Due.is("ofRun(5)", x.ofRun(5), 5);
        x.put(0, PANIC, 0, 0);
        Due.is("run()", x.run(), PANICKED);
        Due.is("the first LINE: ofRun(1)", x.ofRun(1), 1);
        Due.is("the first LINE: ofRun(8)", x.ofRun(8), 0);
        Due.is("ofRun(3)", x.ofRun(3), 0);
    }

    /** Term 6: "LEAKED are NODES, and BOXES, that were made and not told as DROPPED, or at 0", kept or not. */
    private static void t6Leaked() {
        DropflagMill x = mill(kinds(BOX, NUMBER), line(MAKE, 3, 0), line(LOOP, 4), line(LOOP, 4), line(LOOP, 4), line(MAKE, 0, 1),
            line(END), line(END), line(END));
        Due.is("run()", x.run(), ENDED);
        Due.is("made: ofRun(3)", x.ofRun(3), 64);
        Due.is("told: ofRun(2)", x.ofRun(2), 64);
        Due.is("DROPPED: ofRun(5)", x.ofRun(5), 64);
        Due.is("LEAKED, though 4 are not kept: ofRun(7)", x.ofRun(7), 0);
        // one BOX for each way of a MOVE is one BOX alone
        DropflagMill y = mill(kinds(BOX, BOX), line(MAKE, 0, 1), line(MOVE, 3, 0), line(MOVE, 0, 3));
        runIs("MOVES make none", y, ENDED, NONE, 0, told(OF_BOX, 1, 3));
        Due.is("ofRun(3)", y.ofRun(3), 1);
        DropflagMill z = mill(kinds(NUMBER, SHARED, NUMBER), line(MAKE, 0, 1), line(BORROW, 3, 0), line(COPY, 6, 0));
        runIs("NUMBERS and BORROWS are none", z, ENDED, NONE, 0);
        Due.is("ofRun(3)", z.ofRun(3), 0);
        Due.is("ofRun(4)", z.ofRun(4), 0);
    }

    /** Term 2: "STEP: the NUMBER a is b (-99 to 99) more": as often as STEPS let it, past what can be told as a b. */
    private static void t6GreatNumbers() {
        for (int sign = -1; sign <= 1; sign += 2) {
            DropflagMill x = mill(kinds(NUMBER), line(MAKE, 0, sign * 99), line(LOOP, 4), line(LOOP, 4), line(LOOP, 4));
            for (int k = 0; k < 5; k++) {
                x.add(STEP, 0, sign * 99);
            }
            x.add(END, 0, 0);
            x.add(END, 0, 0);
            x.add(END, 0, 0);
            x.add(READ, 0, 0);
            runIs("STEPS of " + sign * 99, x, ENDED, NONE, 0, told(BY_READ, sign * 99 * 321, 12));
            Due.is("meanRead()", x.meanRead(), sign * 99.0 * 321);
        }
    }

    /** Promise 14: "Throws IllegalStateException if there are FAULTS": one is enough; it is no RUN then. */
    private static void p14ThereAreFaults() {
        DropflagMill x = mill(kinds(BOX), line(MAKE, 0, 7), line(READ, 0));
        x.run();
        x.add(DROP, 0, 0);
        x.add(READ, 0, 0);
        Due.is("one: many(2)", x.many(2), 1);
        Due.leavesAll(x, STATE, "run()", () -> x.run());
        Due.is("the RUN ahead: ofRun(9)", x.ofRun(9), 1);
        Due.is("the RUN ahead: told(0, 1)", x.told(0, 1), 7);
        x.put(3, LOOP, 1, 0);
        Due.leavesAll(x, STATE, "not WHOLE: run()", () -> x.run());
        x.put(3, PANIC, 0, 0);
        Due.is("none: run()", x.run(), PANICKED);
        x.add(READ, 0, 0);
        Due.is("none that is not DEAD: run()", x.run(), PANICKED);
        DropflagMill y = mill(kinds(BOX), line(READ, 0));
        Due.leavesAll(y, STATE, "ahead of all: run()", () -> y.run());
    }

    /** Promise 14, with term 2: no LINES at all; the END OF ALL comes at once. */
    private static void p14NothingToRun() {
        DropflagMill x = new DropflagMill();
        runIs("no VARIABLES, no LINES", x, ENDED, NONE, 0);
        Due.is("ofRun(1)", x.ofRun(1), 0);
        x.variable(BOX);
        x.variable(COUNTED);
        runIs("no LINES", x, ENDED, NONE, 0);
        x.add(PANIC, 0, 0);
        runIs("a PANIC alone", x, PANICKED, 0, 0);
        Due.is("ofRun(1)", x.ofRun(1), 1);
    }

    /** Promise 15: "Returns that; 0 ahead of all". */
    private static void p15ZeroAheadOfAll() {
        DropflagMill x = mill(kinds(BOX), line(MAKE, 0, -1));
        for (int what = 0; what <= 9; what++) {
            Due.is("ahead of all: ofRun(" + what + ")", x.ofRun(what), 0);
        }
        x.leakedBy(0);
        x.outcomeWith(0, 5);
        x.couldDrop(1, 0);
        for (int what = 0; what <= 9; what++) {
            Due.is("behind what would be: ofRun(" + what + ")", x.ofRun(what), 0);
        }
        x.run();
        int[] due = {PANICKED, 1, 1, 1, 0, 1, 0, 0, 1, 1};
        for (int what = 0; what <= 9; what++) {
            Due.is("behind a RUN: ofRun(" + what + ")", x.ofRun(what), due[what]);
        }
    }

    /** Promise 15: "Throws IllegalArgumentException if what is not 0 to 9". */
    private static void p15WhatIsNot0To9() {
        DropflagMill x = mill(kinds(BOX), line(MAKE, 0, 1));
        for (int what : new int[] {MIN, -1, 10, 11, MAX}) {
            Due.leavesAll(x, ARGUMENT, "ahead of all: ofRun(" + what + ")", () -> x.ofRun(what));
        }
        x.run();
        for (int what : new int[] {MIN, -1, 10, 11, MAX}) {
            Due.leavesAll(x, ARGUMENT, "ofRun(" + what + ")", () -> x.ofRun(what));
        }
    }

    /** Promise 15: "8 the LINE of the first PANIC (NONE; as many as there are LINES, if it was at the END OF ALL)". */
    private static void p15LineOfTheFirstPanic() {
        DropflagMill x = mill(kinds(BOX, BOX), line(MAKE, 0, -1), line(MAKE, 3, 1), line(READ, 0));
        x.run();
        Due.is("at the END OF ALL: ofRun(8)", x.ofRun(8), 3);
        x.put(2, MAKE, 0, 2);
        x.run();
        Due.is("the last LINE: ofRun(8)", x.ofRun(8), 2);
        x.put(0, MAKE, 0, 1);
        x.run();
        Due.is("none: ofRun(8)", x.ofRun(8), NONE);
        x.put(0, PANIC, 0, 0);
        x.run();
        Due.is("the first LINE: ofRun(8)", x.ofRun(8), 0);
        x.put(0, MAKE, 0, -1);
        x.put(1, MAKE, 3, -1);
        x.run();
        Due.is("the first one of two: ofRun(8)", x.ofRun(8), 2);
        Due.is("ABORTED: ofRun(0)", x.ofRun(0), ABORTED);
        // "of the latest RUN": what it was stays, as LINES come and go behind it
        DropflagMill y = mill(kinds(BOX), line(MAKE, 0, -1), line(READ, 0));
        y.run();
        Due.is("of 2 LINES: ofRun(8)", y.ofRun(8), 2);
        y.add(READ, 0, 0);
        Due.is("one LINE more: ofRun(8)", y.ofRun(8), 2);
        Due.is("one LINE more: told(1, 2)", y.told(1, 2), 2);
        y.cut();
        y.cut();
        Due.is("one LINE less: ofRun(8)", y.ofRun(8), 2);
        Due.is("one LINE less: told(1, 2)", y.told(1, 2), 2);
        y.cut();
        y.variable(COUNTED);
        Due.is("no LINE at all: ofRun(8)", y.ofRun(8), 2);
        Due.is("no LINE at all: told(1, 2)", y.told(1, 2), 2);
        Due.is("no LINE at all: told(0, 2)", y.told(0, 2), 1);
        Due.is("no LINE at all: ofRun(1)", y.ofRun(1), 2);
    }

    /** Promise 15: "or 9 how many RUNS there were": those that threw are none, those that did not END are. */
    private static void p15HowManyRuns() {
        DropflagMill x = mill(kinds(BOX), line(PANIC));
        x.run();
        Due.is("ofRun(9)", x.ofRun(9), 1);
        x.put(0, END, 0, 0);
        Due.thrownIs(STATE, "run()", () -> x.run());
        Due.is("ofRun(9)", x.ofRun(9), 1);
        x.cut();
        x.run();
        Due.is("ofRun(9)", x.ofRun(9), 2);
        DropflagMill y = withSteps(501);
        y.run();
        y.run();
        Due.is("too many STEPS: ofRun(9)", y.ofRun(9), 2);
    }

    /** LINES that tell so much: LOOPS of READS that tell 1, 2, .., and a BOX that is DROPPED last. */
    private static DropflagMill withTold(int reads) {
        DropflagMill x = mill(kinds(NUMBER, BOX), line(MAKE, 0, 0), line(MAKE, 3, 77), line(LOOP, 4), line(LOOP, 4), line(STEP, 0, 1),
            line(READ, 0), line(STEP, 0, 1), line(READ, 0), line(STEP, 0, 1), line(READ, 0), line(END), line(END));
        for (int k = 48; k < reads; k++) {
            x.add(READ, 0, 0);
        }
        return x;
    }

    /** Promise 16: "a number, from 0 (the first 60 are kept)". */
    private static void p16First60AreKept() {
        for (int all = 59; all <= 62; all++) {
            DropflagMill x = withTold(all - 1);
            Due.is("run()", x.run(), ENDED);
            Due.is("ofRun(2)", x.ofRun(2), all);
            for (int k = 0; k < 48; k++) {
                Due.is("told(" + k + ", 1)", x.told(k, 1), k + 1);
            }
            int last = Math.min(all, 60) - 1;
            Due.is(all + ": told(" + last + ", 0)", x.told(last, 0), last == all - 1 ? OF_BOX : BY_READ);
            Due.is(all + ": told(" + last + ", 1)", x.told(last, 1), last == all - 1 ? 77 : 48);
            Due.is(all + ": told(" + last + ", 2)", x.told(last, 2), last == all - 1 ? x.many(1) : 12 + last - 48);
            for (int k = last + 1; k <= 63; k++) {
                int behind = k;
                Due.thrownIs(INDEX, all + ": told(" + k + ", 0)", () -> x.told(behind, 0));
            }
        }
    }

    /** Promise 16: "Throws IndexOutOfBoundsException if there is none", ahead of the one for what. */
    private static void p16ThereIsNone() {
        DropflagMill x = mill(kinds(BOX, BOX), line(MAKE, 0, 1), line(READ, 0));
        for (int k : new int[] {MIN, -1, 0, 1, 59, 60, MAX}) {
            Due.leavesAll(x, INDEX, "ahead of all: told(" + k + ", 0)", () -> x.told(k, 0));
        }
        x.run();
        for (int k : new int[] {MIN, -1, 2, 3, 59, 60, MAX}) {
            for (int what : new int[] {-1, 0, 2, 3}) {
                Due.fails(x, INDEX, "told(" + k + ", " + what + ")", () -> x.told(k, what));
            }
        }
        Due.is("the last one: told(1, 0)", x.told(1, 0), OF_BOX);
        x.put(1, PANIC, 0, 0);
        Due.is("of the latest RUN still: told(1, 0)", x.told(1, 0), OF_BOX);
        x.run();
        Due.fails(x, INDEX, "less in the latest RUN: told(1, 0)", () -> x.told(1, 0));
        x.put(0, PANIC, 0, 0);
        x.run();
        Due.fails(x, INDEX, "nothing in the latest RUN: told(0, 0)", () -> x.told(0, 0));
        Due.fails(x, INDEX, "nothing in the latest RUN: told(0, 3)", () -> x.told(0, 3));
    }

    /** Promise 16: "Throws IllegalArgumentException if what is not 0 to 2". */
    private static void p16WhatIsNot0To2() {
        DropflagMill x = mill(kinds(COUNTED), line(MAKE, 0, -9));
        x.run();
        for (int what : new int[] {MIN, -1, 3, 4, MAX}) {
            Due.leavesAll(x, ARGUMENT, "told(0, " + what + ")", () -> x.told(0, what));
        }
        Due.is("told(0, 0)", x.told(0, 0), OF_NODE);
        Due.is("told(0, 1)", x.told(0, 1), -9);
        Due.is("told(0, 2)", x.told(0, 2), 1);
    }

    /** Promise 16: "2 the LINE (the END OF ALL, and behind a PANIC: as many as there are LINES)". */
    private static void p16AsManyAsThereAreLines() {
        DropflagMill x = mill(kinds(BOX), line(MAKE, 0, 1), line(MAKE, 0, 2), line(PANIC), line(READ, 0));
        runIs("behind a PANIC", x, PANICKED, 2, 0, told(OF_BOX, 1, 1), told(OF_BOX, 2, 4));
        x.cut();
        runIs("one LINE less", x, PANICKED, 2, 0, told(OF_BOX, 1, 1), told(OF_BOX, 2, 3));
        x.put(2, READ, 0, 0);
        runIs("the END OF ALL", x, ENDED, NONE, 0, told(OF_BOX, 1, 1), told(BY_READ, 2, 2), told(OF_BOX, 2, 3));
        DropflagMill full = mill(kinds(BOX), line(MAKE, 0, 1));
        for (int at = 1; at < 32; at++) {
            full.add(WRITE, 0, at);
        }
        runIs("32 LINES", full, ENDED, NONE, 0, told(OF_BOX, 31, 32));
    }

    /** Promise 18: "the mean of the numbers that were told in the latest RUN by READ ..; 0 without any". */
    private static void p18NoneToldByRead() {
        DropflagMill x = mill(kinds(BOX, COUNTED), line(MAKE, 0, 7), line(READ, 0), line(MAKE, 3, 9));
        Due.is("ahead of all: meanRead()", x.meanRead(), 0.0);
        x.run();
        Due.is("of READS alone: meanRead()", x.meanRead(), 7.0);
        x.put(1, WRITE, 0, 5);
        Due.is("of the latest RUN still: meanRead()", x.meanRead(), 7.0);
        x.run();
        Due.is("without any: meanRead()", x.meanRead(), 0.0);
        x.put(0, READ, 0, 0);
        Due.thrownIs(STATE, "run()", () -> x.run());
        Due.is("without any: meanRead()", x.meanRead(), 0.0);
        DropflagMill y = mill(kinds(NUMBER), line(MAKE, 0, -1), line(READ, 0), line(STEP, 0, 2), line(READ, 0));
        y.run();
        Due.is("a sum of 0: meanRead()", y.meanRead(), 0.0);
    }

    /** Promise 18: "and are kept, not cut": what is told behind the 60th does not count, and parts of 1 do. */
    private static void p18KeptNotCut() {
        // 48 READS of 1 to 48, then a WRITE of 99 and READS of it
        for (int more = 11; more <= 14; more++) {
            DropflagMill x = withTold(48);
            x.add(WRITE, 0, 99);
            for (int k = 0; k < more; k++) {
                x.add(READ, 0, 0);
            }
            x.run();
            Due.is("ofRun(2)", x.ofRun(2), 48 + more + 1);
            int kept = Math.min(more, 12);
            double sum = 48 * 49 / 2 + 99 * kept;
            Due.is("48 + " + more + " READS: meanRead()", x.meanRead(), sum / (48 + kept));
        }
        for (int third = -2; third <= 2; third++) {
            DropflagMill y = mill(kinds(NUMBER), line(MAKE, 0, 0), line(READ, 0), line(READ, 0), line(WRITE, 0, third),
                line(READ, 0));
            y.run();
            Due.is(third + " of 3: meanRead()", y.meanRead(), third / 3.0);
        }
    }

    /** "A method that throws an exception changes nothing": promises 14 to 16, behind a RUN that ABORTED. */
    private static void refusedCallsChangeNothing() {
        DropflagMill x = mill(kinds(BOX, BOX, NUMBER), line(MAKE, 0, -1), line(MAKE, 3, -1), line(MAKE, 6, 4), line(READ, 6));
        x.run();
        Due.leavesAll(x, ARGUMENT, "ofRun(10)", () -> x.ofRun(10));
        Due.leavesAll(x, INDEX, "told(3, 0)", () -> x.told(3, 0));
        Due.leavesAll(x, ARGUMENT, "told(2, 3)", () -> x.told(2, 3));
        x.put(2, READ, 6, 0);
        Due.leavesAll(x, STATE, "run()", () -> x.run());
        Due.is("ofRun(0)", x.ofRun(0), ABORTED);
        Due.is("ofRun(8)", x.ofRun(8), 4);
        Due.is("meanRead()", x.meanRead(), 4.0);
    }
}
