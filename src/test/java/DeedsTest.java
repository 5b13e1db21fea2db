import java.util.Arrays;

/**
 * What a LINE does, SORT by SORT (terms 3 to 5): what it USES, what it lets HAVE and NOT, and what it TAKES, each as
 * it shows in the answers. Every SORT stands in every table, also those that do none of it.
 */
public final class DeedsTest implements Words {
    /** 0 and 3 NUMBERS, 6 BOX, 9 (10, 11) PAIR, 12 (13, 14) PAIR, 15 SHARED, 18 ALONE, 21 COUNTED. */
    private static final int[] KINDS = {NUMBER, NUMBER, BOX, PAIR, PAIR, SHARED, ALONE, COUNTED};
    private static final int[] PLACES = {0, 3, 6, 9, 10, 11, 12, 13, 14, 15, 18, 21};
    /** All that is OWNED, and NUMBERS; the BORROWS have their LOANS of the NUMBER 3. */
    private static final int[][] ALL_HAVE = {{MAKE, 0, 1}, {MAKE, 3, 1}, {MAKE, 6, 1}, {MAKE, 9, 1}, {MAKE, 12, 1},
        {MAKE, 21, 1}, {LEND, 18, 3}, {BORROW, 15, 3}};

    public static void main(String[] args) {
        t3Uses();
        t3UsesOfALink();
        t3LetsHaveAndNot();
        t3LetsNothingElse();
        t4WhatIsUsedIsWanted();
        t4Takes();
        t5FlagsOfOwnedAlone();
        Due.end();
    }

    private static int[] row(int... row) {
        return row;
    }

    private static DropflagMill mill(int[][] start, int[]... lines) {
        DropflagMill x = Due.mill(KINDS, start);
        for (int[] line : lines) {
            x.add(line[0], line[1], line[2]);
        }
        return x;
    }

    /** With END behind what needs one, and what an ELSE or END needs ahead of it. */
    private static void addWhole(DropflagMill x, int[] line) {
        if (line[0] == ELSE) {
            x.add(IF, 0, 0);
        }
        if (line[0] == END) {
            x.add(LOOP, 1, 0);
        }
        x.add(line[0], line[1], line[2]);
        if (line[0] == IF || line[0] == LOOP || line[0] == ELSE) {
            x.add(END, 0, 0);
        }
    }

    /** Each {SORT, a, b, the VARIABLE that it USES}. */
    private static final int[][] USES = {
        {MAKE, 0, 1, NONE}, {MAKE, 6, 1, NONE}, {MAKE, 9, 1, NONE}, {MAKE, 10, 1, NONE}, {MAKE, 21, 1, NONE},
        {MOVE, 6, 10, 3}, {MOVE, 10, 6, 2}, {MOVE, 9, 12, 4}, {MOVE, 12, 9, 3}, {MOVE, 18, 18, 6}, {MOVE, 21, 21, 7},
        {COPY, 0, 3, 1}, {COPY, 3, 0, 0}, {COPY, 15, 15, 5}, {COPY, 21, 21, 7},
        {BORROW, 15, 0, 0}, {BORROW, 15, 6, 2}, {BORROW, 15, 9, 3}, {BORROW, 15, 11, 3},
        {LEND, 18, 0, 0}, {LEND, 18, 6, 2}, {LEND, 18, 9, 3}, {LEND, 18, 11, 3},
        {READ, 0, 0, 0}, {READ, 6, 0, 2}, {READ, 9, 0, 3}, {READ, 11, 0, 3}, {READ, 15, 0, 5}, {READ, 18, 0, 6},
        {READ, 21, 0, 7}, {WRITE, 0, 1, 0}, {WRITE, 6, 1, 2}, {WRITE, 11, 1, 3}, {WRITE, 18, 1, 6}, {WRITE, 21, 1, 7},
        {DROP, 6, 0, 2}, {DROP, 9, 0, 3}, {DROP, 11, 0, 3}, {DROP, 21, 0, 7}, {IF, 0, 0, 0}, {ELSE, 0, 0, NONE},
        {LOOP, 3, 0, NONE}, {END, 0, 0, NONE}, {LINK, 21, 21, 7}, {HOLD, 21, 0, 7}, {LET_GO, 21, 0, 7},
        {PANIC, 0, 0, NONE}, {STEP, 3, 1, 1}};

    /** Term 3: "A LINE USES: ..", with term 5: FAULT 1 of what it USES, and promise 13: "how many LINES USE it". */
    private static void t3Uses() {
        for (int[] line : USES) {
            DropflagMill x = mill(new int[][] {{MAKE, 0, 1}});
            int users = line[0] == ELSE ? 1 : 0;
            addWhole(x, line);
            String what = Arrays.toString(line);
            for (int v = 0; v < KINDS.length; v++) {
                int due = (v == line[3] ? 1 : 0) + (v == 0 ? users : 0);
                Due.is(what + " alone: ofVariable(" + v + ", 2)", x.ofVariable(v, 2), due);
            }
            boolean isMissing = line[3] > 0;
            Due.is(what + " alone: many(2)", x.many(2), isMissing ? 1 : 0);
            if (isMissing && x.many(2) == 1) {
                Due.is(what + " alone: fault(0, 0)", x.fault(0, 0), 1);
                Due.is(what + " alone: fault(0, 1)", x.fault(0, 1), 1);
                Due.is(what + " alone: the VARIABLE of fault(0, 2)", x.fault(0, 2) / 3, line[3]);
            }
        }
    }

    /** Term 3: "LINK a, then b". */
    private static void t3UsesOfALink() {
        int[] kinds = {COUNTED, COUNTED, COUNTED};
        for (int made = 0; made < 4; made++) {
            DropflagMill x = Due.mill(kinds, new int[][] {{MAKE, 6, 1}, {MAKE, made % 2 == 0 ? 6 : 0, 1},
                {MAKE, made / 2 == 0 ? 6 : 3, 1}, {LINK, 0, 3}});
            int missing = made % 2 == 0 ? 0 : made / 2 == 0 ? 3 : NONE;
            Due.is("LINK, made " + made + ": many(2)", x.many(2), missing == NONE ? 0 : 1);
            if (missing != NONE && x.many(2) == 1) {
                Due.is("LINK, made " + made + ": fault(0, 2)", x.fault(0, 2), missing);
            }
            Due.is("LINK: ofVariable(0, 2)", x.ofVariable(0, 2), 1);
            Due.is("LINK: ofVariable(1, 2)", x.ofVariable(1, 2), 1);
        }
    }

    /** Term 3: "MOVE lets b, DROP a NOT have any more; then MAKE, MOVE, COPY, BORROW and LEND let a HAVE something". */
    private static void t3LetsHaveAndNot() {
        // {SORT, a, b, what is given, what is lost}, ahead of which the one has not and the other one has
        int[][] lines = {{MAKE, 0, 1, 0, NONE}, {MAKE, 6, 1, 6, NONE}, {MAKE, 9, 1, 9, NONE}, {MAKE, 10, 1, 10, NONE},
            {MAKE, 21, 1, 21, NONE}, {MOVE, 6, 13, 6, 13}, {MOVE, 10, 14, 10, 14}, {MOVE, 9, 12, 9, 12},
            {COPY, 0, 3, 0, NONE}, {BORROW, 15, 3, 15, NONE}, {LEND, 18, 3, 18, NONE}, {DROP, 12, 0, NONE, 12},
            {DROP, 14, 0, NONE, 14}};
        for (int[] line : lines) {
            DropflagMill x = mill(new int[][] {{MAKE, 3, 1}, {MAKE, 12, 1}}, line);
            String what = Arrays.toString(line);
            if (line[3] != NONE) {
                Due.is(what + ": state(2, " + line[3] + ")", x.state(2, line[3]), 2);
                Due.is(what + ": state(3, " + line[3] + ")", x.state(3, line[3]), 1);
                Due.is(what + ": ofVariable(" + line[3] / 3 + ", 3)", x.ofVariable(line[3] / 3, 3), 1);
            }
            if (line[4] != NONE) {
                Due.is(what + ": state(2, " + line[4] + ")", x.state(2, line[4]), 1);
                Due.is(what + ": state(3, " + line[4] + ")", x.state(3, line[4]), 2);
                Due.is(what + ": ofVariable(" + line[4] / 3 + ", 3)", x.ofVariable(line[4] / 3, 3), 1);
            }
        }
        int[] kinds = {COUNTED, COUNTED, ALONE, ALONE, SHARED, SHARED, NUMBER};
        DropflagMill x = Due.mill(kinds, new int[][] {{MAKE, 18, 1}, {MAKE, 0, 1}, {LEND, 6, 18}, {BORROW, 12, 18},
            {COPY, 3, 0}, {MOVE, 0, 3}, {MOVE, 9, 6}, {COPY, 15, 12}});
        int[][] due = {{3, 4, 2, 1}, {3, 5, 1, 2}, {0, 5, 1, 1}, {9, 6, 2, 1}, {6, 6, 1, 2}, {15, 7, 2, 1}, {12, 7, 1, 1}};
        for (int[] each : due) {
            Due.is("ahead: state(" + each[1] + ", " + each[0] + ")", x.state(each[1], each[0]), each[2]);
            Due.is("behind: state(" + (each[1] + 1) + ", " + each[0] + ")", x.state(each[1] + 1, each[0]), each[3]);
        }
    }

    /** Term 3, the same sentence: a LINE changes nothing of what else has something. */
    private static void t3LetsNothingElse() {
        for (int[] line : USES) {
            if (line[0] == PANIC) {
                continue;
            }
            DropflagMill x = mill(ALL_HAVE);
            int ahead = x.many(1);
            addWhole(x, line);
            int lost = line[0] == DROP ? line[1] : line[0] == MOVE && line[1] != line[2] ? line[2] : NONE;
            for (int place : PLACES) {
                int due = lost != NONE && meets(place, lost) ? 2 : 1;
                String call = Arrays.toString(line) + " behind all: state(" + x.many(1) + ", " + place + ")";
                Due.is("ahead of " + call, x.state(ahead, place), 1);
                Due.is(call, x.state(x.many(1), place), due);
            }
        }
    }

    /** Term 4: "WANTED ahead of a LINE, if a way from there (with it) comes to a LINE that USES it". */
    private static void t4WhatIsUsedIsWanted() {
        for (int[] line : USES) {
            DropflagMill x = mill(ALL_HAVE);
            int at = x.many(1) + (line[0] == ELSE || line[0] == END ? 1 : 0);
            addWhole(x, line);
            for (int v = 5; v <= 6; v++) {
                String call = Arrays.toString(line) + ": isWanted(" + at + ", " + v + ")";
                Due.is(call, x.isWanted(at, v), line[3] == v);
            }
        }
    }

    private static boolean meets(int place, int other) {
        return place == other || place / 3 == other / 3 && (place % 3 == 0 || other % 3 == 0);
    }

    /** Each LINE {SORT, a, b}, then what it TAKES in its order, each {PLACE, 3 to WRITE or 4 to READ}. */
    private static final int[][][] TAKES = {
        {{MAKE, 0, 1}, {0, 3}}, {{MAKE, 6, 1}, {6, 3}}, {{MAKE, 9, 1}, {9, 3}}, {{MAKE, 11, 1}, {11, 3}}, {{MAKE, 21, 1}},
        {{MOVE, 6, 10}, {6, 3}, {10, 3}}, {{MOVE, 11, 6}, {11, 3}, {6, 3}}, {{MOVE, 10, 11}, {10, 3}, {11, 3}},
        {{MOVE, 9, 12}, {9, 3}, {12, 3}}, {{MOVE, 6, 6}, {6, 3}}, {{MOVE, 18, 18}}, {{MOVE, 21, 21}},
        {{COPY, 0, 3}, {3, 4}, {0, 3}}, {{COPY, 3, 0}, {0, 4}, {3, 3}}, {{COPY, 0, 0}, {0, 4}, {0, 3}},
        {{COPY, 15, 15}}, {{COPY, 21, 21}}, {{BORROW, 15, 0}, {0, 4}}, {{BORROW, 15, 6}, {6, 4}},
        {{BORROW, 15, 9}, {9, 4}}, {{BORROW, 15, 11}, {11, 4}}, {{LEND, 18, 0}, {0, 3}}, {{LEND, 18, 6}, {6, 3}},
        {{LEND, 18, 9}, {9, 3}}, {{LEND, 18, 11}, {11, 3}}, {{READ, 0, 0}, {0, 4}}, {{READ, 6, 0}, {6, 4}},
        {{READ, 9, 0}, {9, 4}}, {{READ, 11, 0}, {11, 4}}, {{READ, 15, 0}}, {{READ, 18, 0}}, {{READ, 21, 0}},
        {{WRITE, 0, 1}, {0, 3}}, {{WRITE, 6, 1}, {6, 3}}, {{WRITE, 11, 1}, {11, 3}}, {{WRITE, 18, 1}}, {{WRITE, 21, 1}},
        {{DROP, 6, 0}, {6, 3}}, {{DROP, 9, 0}, {9, 3}}, {{DROP, 11, 0}, {11, 3}}, {{DROP, 21, 0}}, {{IF, 0, 0}, {0, 4}},
        {{IF, 3, 0}, {3, 4}}, {{LOOP, 2, 0}}, {{END, 0, 0}}, {{LINK, 21, 21}}, {{HOLD, 21, 0}}, {{LET_GO, 21, 0}},
        {{PANIC, 0, 0}}, {{STEP, 0, 1}, {0, 3}}, {{STEP, 3, 1}, {3, 3}}};

    /**
     * Term 4: "A LINE TAKES a PLACE: ..", with term 5: the first one for which there is a LOAN of what MEETS it has
     * FAULT 3 or 4, of a LEND and of a BORROW, and none if the LINE gives the BORROW something.
     */
    private static void t4Takes() {
        for (int[][] line : TAKES) {
            for (int lent : new int[] {0, 3, 6, 9, 10, 11, 12, 13}) {
                takenAsDue(line, lent, ALONE);
                takenAsDue(line, lent, SHARED);
            }
        }
    }

    private static void takenAsDue(int[][] line, int lent, int kind) {
        int borrow = kind == ALONE ? 18 : 15;
        DropflagMill x = mill(ALL_HAVE);
        x.add(kind == ALONE ? LEND : BORROW, borrow, lent);
        int at = x.many(1) + (line[0][0] == END ? 1 : 0);
        addWhole(x, line[0]);
        x.add(READ, borrow, 0);
        int sort = line[0][0];
        boolean isGiven = sort <= LEND && line[0][1] == borrow;
        int fault = 0;
        int place = NONE;
        for (int k = 1; k < line.length && fault == 0 && !isGiven; k++) {
            if (meets(line[k][0], lent) && (line[k][1] == 3 || kind == ALONE)) {
                fault = line[k][1];
                place = line[k][0];
            }
        }
        String what = Arrays.toString(line[0]) + " with " + lent + (kind == ALONE ? " lent" : " borrowed");
        int found = 0;
        for (int k = 0; k < x.many(2); k++) {
            if (x.fault(k, 1) == at) {
                found = x.fault(k, 0);
                Due.is(what + ": the PLACE", x.fault(k, 2), place);
                Due.is(what + ": the LOAN", x.fault(k, 3), 2);
                Due.is(what + ": the LAST USE", x.fault(k, 4), x.many(1) - 1);
            }
        }
        Due.is(what + ": the FAULT", found, fault);
    }

    /** Term 5: "A LEAF of something OWNED needs a FLAG": of each KIND, as the first VARIABLE and as the last one. */
    private static void t5FlagsOfOwnedAlone() {
        int[] due = {0, 1, 3, 0, 0, 1};
        for (int kind = NUMBER; kind <= COUNTED; kind++) {
            for (int at = 0; at <= 7; at += 7) {
                int[] kinds = {NUMBER, NUMBER, NUMBER, NUMBER, NUMBER, NUMBER, NUMBER, NUMBER};
                kinds[at] = kind;
                int sort = kind == SHARED ? BORROW : kind == ALONE ? LEND : MAKE;
                DropflagMill x = Due.mill(kinds, new int[][] {{MAKE, 9, 1}, {IF, 9, 0}, {sort, 3 * at, sort == MAKE ? 1 : 9},
                    {END, 0, 0}});
                Due.is("KIND " + kind + ": state(4, " + 3 * at + ")", x.state(4, 3 * at), 3);
                Due.is("KIND " + kind + ": ofVariable(" + at + ", 1)", x.ofVariable(at, 1), due[kind]);
                Due.is("KIND " + kind + ": many(4)", x.many(4), Integer.bitCount(due[kind]));
            }
        }
    }
}
