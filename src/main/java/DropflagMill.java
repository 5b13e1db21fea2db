import java.util.Arrays;

/**
 * A mill for a small language of owned values: LINES are told, all is checked ahead, and it is run
 * with everything watched. The words in capitals are those of the document (../shared/DOC.md).
 */
public final class DropflagMill {
    private static final int NONE = -1;

    private static final int MOST_VARIABLES = 8;
    private static final int MOST_LINES = 32;
    private static final int MOST_LOANS = 16;
    private static final int MOST_STEPS = 500;
    private static final int MOST_KEPT = 60;
    private static final int GREATEST = 99;

    private static final int PLACE_ROOM = 3 * MOST_VARIABLES;
    /** One LINE more than can be told, as couldDrop thinks of one more, and the END OF ALL. */
    private static final int LINE_ROOM = MOST_LINES + 2;
    /** Far above the rounds that any program needs till nothing new comes to any of its LINES. */
    private static final int MOST_ROUNDS = 100000;

    private static final int NUMBER = 0;
    private static final int BOX = 1;
    private static final int PAIR = 2;
    private static final int SHARED = 3;
    private static final int ALONE = 4;
    private static final int COUNTED = 5;

    private static final int MAKE = 0;
    private static final int MOVE = 1;
    private static final int COPY = 2;
    private static final int BORROW = 3;
    private static final int LEND = 4;
    private static final int READ = 5;
    private static final int WRITE = 6;
    private static final int DROP = 7;
    private static final int IF = 8;
    private static final int ELSE = 9;
    private static final int LOOP = 10;
    private static final int END = 11;
    private static final int LINK = 12;
    private static final int HOLD = 13;
    private static final int LET_GO = 14;
    private static final int PANIC = 15;
    private static final int STEP = 16;

    private static final int FAULT_HAS_NOT = 1;
    private static final int FAULT_MAY_NOT_HAVE = 2;
    private static final int FAULT_WRITE = 3;
    private static final int FAULT_READ = 4;
    private static final int FAULT_NOT_WHOLE = 5;

    private static final int TOLD_READ = 0;
    private static final int TOLD_BOX = 1;
    private static final int TOLD_NODE = 2;

    private static final int ENDED = 0;
    private static final int PANICKED = 1;
    private static final int ABORTED = 2;
    private static final int TOO_LONG = 3;

    private final Program program;
    private final Check check;
    private final Run latest;
    /** What would be is tried on a second set of rows, so that nothing of the first one changes. */
    private final Program other;
    private final Check otherCheck;
    private final Run trial;
    private int runs;

    public DropflagMill() {
        program = new Program();
        check = new Check(program);
        latest = new Run(program, check.ways);
        other = new Program();
        otherCheck = new Check(other);
        trial = new Run(other, otherCheck.ways);
        runs = 0;
        check.look();
    }

    // ---- variables and lines

    public int variable(int kind) throws IllegalArgumentException, IllegalStateException {
        if (kind < NUMBER || kind > COUNTED) {
            throw new IllegalArgumentException("no such kind");
        }
        if (program.variables >= MOST_VARIABLES) {
            throw new IllegalStateException("there are 8 variables");
        }
        int number = program.newVariable(kind);
        check.look();
        return number;
    }

    public int add(int sort, int a, int b) throws IllegalArgumentException, IllegalStateException {
        if (!program.fits(sort, a, b)) {
            throw new IllegalArgumentException("no such line can be");
        }
        if (program.lines >= MOST_LINES) {
            throw new IllegalStateException("there are 32 lines");
        }
        if (program.countLoans() + loansOf(sort) > MOST_LOANS) {
            throw new IllegalStateException("there are 16 loans");
        }
        program.insertLine(program.lines, sort, a, b);
        check.look();
        return program.lines - 1;
    }

    public int put(int line, int sort, int a, int b)
            throws IndexOutOfBoundsException, IllegalArgumentException, IllegalStateException {
        if (!program.isLine(line)) {
            throw new IndexOutOfBoundsException("no such line");
        }
        if (!program.fits(sort, a, b)) {
            throw new IllegalArgumentException("no such line can be");
        }
        int before = program.sortAt(line);
        if (program.countLoans() - loansOf(before) + loansOf(sort) > MOST_LOANS) {
            throw new IllegalStateException("there are 16 loans");
        }
        program.setLine(line, sort, a, b);
        check.look();
        return before;
    }

    public int cut() throws IllegalStateException {
        if (program.lines == 0) {
            throw new IllegalStateException("there is no line");
        }
        int last = program.lines - 1;
        int before = program.sortAt(last);
        program.removeLine(last);
        check.look();
        return before;
    }

    public int ofLine(int line, int what) throws IndexOutOfBoundsException, IllegalArgumentException {
        if (!program.isLine(line)) {
            throw new IndexOutOfBoundsException("no such line");
        }
        if (what < 0 || what > 5) {
            throw new IllegalArgumentException("no such what");
        }
        switch (what) {
            case 0: return program.sortAt(line);
            case 1: return program.aAt(line);
            case 2: return program.bAt(line);
            case 3: return check.ways.firstAt(line);
            case 4: return check.ways.secondAt(line);
            default: return check.isDead(line) ? 1 : 0;
        }
    }

    // ---- what is checked

    public int state(int line, int place) throws IndexOutOfBoundsException {
        if (!program.isLineOrEnd(line) || program.kindAt(place) == NONE) {
            throw new IndexOutOfBoundsException("no such line, or place");
        }
        return check.stateAt(line, place);
    }

    public int holds(int line, int variable) throws IndexOutOfBoundsException {
        if (!program.isLineOrEnd(line) || !program.isBorrow(variable)) {
            throw new IndexOutOfBoundsException("no such line, or borrow");
        }
        return check.heldBy(line, variable);
    }

    public boolean isWanted(int line, int variable) throws IndexOutOfBoundsException {
        if (!program.isLineOrEnd(line) || !program.isBorrow(variable)) {
            throw new IndexOutOfBoundsException("no such line, or borrow");
        }
        return (check.wantedAt(line) & (1 << variable)) != 0;
    }

    public int inTheWay(int line, int place) throws IndexOutOfBoundsException {
        if (!program.isLineOrEnd(line) || program.kindAt(place) == NONE) {
            throw new IndexOutOfBoundsException("no such line, or place");
        }
        return check.smallestLoan(line, place, check.wantedAt(line), false);
    }

    public int ofLoan(int loan, int what) throws IndexOutOfBoundsException, IllegalArgumentException {
        if (!check.loans.isLoan(loan)) {
            throw new IndexOutOfBoundsException("no such loan");
        }
        if (what < 0 || what > 3) {
            throw new IllegalArgumentException("no such what");
        }
        switch (what) {
            case 0: return check.loans.lineOf(loan);
            case 1: return check.loans.placeOf(loan);
            case 2: return check.loans.isLent(loan) ? 1 : 0;
            default: return check.lastUse(loan);
        }
    }

    public int fault(int k, int what) throws IndexOutOfBoundsException, IllegalArgumentException {
        if (!check.faults.isFault(k)) {
            throw new IndexOutOfBoundsException("no such fault");
        }
        if (what < 0 || what > 4) {
            throw new IllegalArgumentException("no such what");
        }
        if (what == 4) {
            return check.lastUse(check.faults.fact(k, 3));
        }
        return check.faults.fact(k, what);
    }

    public int ofVariable(int variable, int what) throws IndexOutOfBoundsException, IllegalArgumentException {
        if (!program.isVariable(variable)) {
            throw new IndexOutOfBoundsException("no such variable");
        }
        if (what < 0 || what > 3) {
            throw new IllegalArgumentException("no such what");
        }
        switch (what) {
            case 0: return program.kindAt(3 * variable);
            case 1: return check.flagsOf(variable);
            case 2: return check.deeds.countUsers(variable);
            default: return check.deeds.countGivers(variable);
        }
    }

    // ---- runs

    public int run() throws IllegalStateException {
        if (check.faults.count > 0) {
            throw new IllegalStateException("there are faults");
        }
        runs++;
        latest.go();
        return latest.outcome;
    }

    public int ofRun(int what) throws IllegalArgumentException {
        if (what < 0 || what > 9) {
            throw new IllegalArgumentException("no such what");
        }
        switch (what) {
            case 0: return latest.outcome;
            case 1: return latest.steps;
            case 2: return latest.story.count;
            case 3: return latest.boxesMade;
            case 4: return latest.nodes.made;
            case 5: return latest.boxesDropped;
            case 6: return latest.nodes.gone;
            case 7: return latest.countLeaked();
            case 8: return runs == 0 ? 0 : latest.panicLine;
            default: return runs;
        }
    }

    public int told(int k, int what) throws IndexOutOfBoundsException, IllegalArgumentException {
        if (!latest.story.isKept(k)) {
            throw new IndexOutOfBoundsException("nothing is kept there");
        }
        if (what < 0 || what > 2) {
            throw new IllegalArgumentException("no such what");
        }
        return latest.story.fact(k, what);
    }

    public int many(int what) throws IllegalArgumentException {
        if (what < 0 || what > 6) {
            throw new IllegalArgumentException("no such what");
        }
        switch (what) {
            case 0: return program.variables;
            case 1: return program.lines;
            case 2: return check.faults.count;
            case 3: return check.loans.count;
            case 4: return Integer.bitCount(check.flags);
            case 5: return check.countDead();
            default: return check.mostWanted();
        }
    }

    public double meanRead() {
        return latest.story.meanOfReads();
    }

    // ---- what would be (nothing is changed)

    public int faultsWithout(int line) throws IndexOutOfBoundsException {
        if (!program.isLine(line)) {
            throw new IndexOutOfBoundsException("no such line");
        }
        other.copyOf(program);
        other.removeLine(line);
        otherCheck.look();
        return otherCheck.faults.count;
    }

    public int couldDrop(int line, int place) throws IndexOutOfBoundsException {
        if (!program.isLineOrEnd(line) || !isOwned(program.kindAt(place))) {
            throw new IndexOutOfBoundsException("no such line, or owned place");
        }
        other.copyOf(program);
        other.insertLine(line, DROP, place, 0);
        otherCheck.look();
        return otherCheck.ways.isWhole() ? otherCheck.faults.numberOfLine(line) : 0;
    }

    public int leakedBy(int line) throws IndexOutOfBoundsException {
        if (!program.isLine(line)) {
            throw new IndexOutOfBoundsException("no such line");
        }
        other.copyOf(program);
        other.setLine(line, PANIC, 0, 0);
        otherCheck.look();
        if (otherCheck.faults.count > 0) {
            return NONE;
        }
        trial.go();
        return trial.countLeaked();
    }

    public int outcomeWith(int line, int number) throws IndexOutOfBoundsException, IllegalArgumentException {
        int sort = program.sortAt(line);
        if (sort != MAKE && sort != WRITE) {
            throw new IndexOutOfBoundsException("no such line that is a make or write");
        }
        if (!isSmall(number)) {
            throw new IllegalArgumentException("not a number from -99 to 99");
        }
        other.copyOf(program);
        other.setLine(line, sort, program.aAt(line), number);
        otherCheck.look();
        if (otherCheck.faults.count > 0) {
            return NONE;
        }
        trial.go();
        return trial.outcome;
    }

    public long digest() {
        long d = 58135;
        for (int what = 0; what <= 6; what++) {
            d = d * 31 + many(what);
        }
        for (int variable = 0; variable < program.variables; variable++) {
            for (int what = 0; what <= 3; what++) {
                d = d * 31 + ofVariable(variable, what);
            }
        }
        for (int line = 0; line < program.lines; line++) {
            d = withLine(d, line);
        }
        d = withLoansAndFaults(d);
        d = withLatestRun(d);
        if (program.lines > 0) {
            d = d * 31 + leakedBy(program.lines - 1);
        }
        return d;
    }

    private long withLine(long start, int line) {
        long d = start;
        for (int what = 3; what <= 5; what++) {
            d = d * 31 + ofLine(line, what);
        }
        for (int variable = 0; variable < program.variables; variable++) {
            d = d * 31 + state(line, 3 * variable);
            d = d * 31 + inTheWay(line, 3 * variable);
            if (program.isBorrow(variable)) {
                d = d * 31 + holds(line, variable);
                d = d * 31 + (isWanted(line, variable) ? 1 : 0);
            }
        }
        return d * 31 + faultsWithout(line);
    }

    private long withLoansAndFaults(long start) {
        long d = start;
        for (int loan = 0; loan < check.loans.count; loan++) {
            for (int what = 0; what <= 3; what++) {
                d = d * 31 + ofLoan(loan, what);
            }
        }
        for (int k = 0; k < check.faults.count; k++) {
            for (int what = 0; what <= 4; what++) {
                d = d * 31 + fault(k, what);
            }
        }
        return d;
    }

    private long withLatestRun(long start) {
        long d = start;
        for (int what = 0; what <= 9; what++) {
            d = d * 31 + ofRun(what);
        }
        int kept = latest.story.countKept();
        for (int k = 0; k < kept; k++) {
            for (int what = 0; what <= 2; what++) {
                d = d * 31 + told(k, what);
            }
        }
        return d;
    }

    private static boolean isSmall(int number) {
        return number >= -GREATEST && number <= GREATEST;
    }

    private static boolean isOwned(int kind) {
        return kind == BOX || kind == PAIR || kind == COUNTED;
    }

    private static boolean isBorrowKind(int kind) {
        return kind == SHARED || kind == ALONE;
    }

    private static boolean canBeLent(int kind) {
        return kind == NUMBER || kind == BOX || kind == PAIR;
    }

    private static int loansOf(int sort) {
        return sort == BORROW || sort == LEND ? 1 : 0;
    }

    private static boolean meets(int place, int otherPlace) {
        if (place == otherPlace) {
            return true;
        }
        boolean isOneWhole = place % 3 == 0 || otherPlace % 3 == 0;
        return isOneWhole && place / 3 == otherPlace / 3;
    }

    private static boolean isIndexOf(int[] row, int index) {
        return index >= 0 && index < row.length;
    }

    /** The VARIABLES and LINES as they were told. */
    private static final class Program {
        final int[] kinds;
        final int[] sorts;
        final int[] as;
        final int[] bs;
        int variables;
        int lines;

        Program() {
            kinds = new int[MOST_VARIABLES];
            sorts = new int[LINE_ROOM];
            as = new int[LINE_ROOM];
            bs = new int[LINE_ROOM];
            variables = 0;
            lines = 0;
        }

        void copyOf(Program from) {
            System.arraycopy(from.kinds, 0, kinds, 0, MOST_VARIABLES);
            System.arraycopy(from.sorts, 0, sorts, 0, LINE_ROOM);
            System.arraycopy(from.as, 0, as, 0, LINE_ROOM);
            System.arraycopy(from.bs, 0, bs, 0, LINE_ROOM);
            variables = from.variables;
            lines = from.lines;
        }

        int newVariable(int kind) {
            if (!isIndexOf(kinds, variables)) {
                return NONE;
            }
            kinds[variables] = kind;
            variables++;
            return variables - 1;
        }

        void insertLine(int line, int sort, int a, int b) {
            if (!isLineOrEnd(line) || lines >= LINE_ROOM - 1) {
                return;
            }
            for (int later = lines; later > line; later--) {
                sorts[later] = sorts[later - 1];
                as[later] = as[later - 1];
                bs[later] = bs[later - 1];
            }
            lines++;
            setLine(line, sort, a, b);
        }

        void removeLine(int line) {
            if (!isLine(line)) {
                return;
            }
            lines--;
            for (int later = line; later < lines; later++) {
                sorts[later] = sorts[later + 1];
                as[later] = as[later + 1];
                bs[later] = bs[later + 1];
            }
        }

        void setLine(int line, int sort, int a, int b) {
            if (isLine(line)) {
                sorts[line] = sort;
                as[line] = a;
                bs[line] = b;
            }
        }

        boolean isLine(int line) {
            return line >= 0 && line < lines;
        }

        boolean isLineOrEnd(int line) {
            return line >= 0 && line <= lines;
        }

        boolean isVariable(int variable) {
            return variable >= 0 && variable < variables;
        }

        boolean isBorrow(int variable) {
            return isVariable(variable) && isBorrowKind(kinds[variable]);
        }

        int sortAt(int line) {
            return isLine(line) ? sorts[line] : NONE;
        }

        int aAt(int line) {
            return isLine(line) ? as[line] : NONE;
        }

        int bAt(int line) {
            return isLine(line) ? bs[line] : NONE;
        }

        /** The KIND of a PLACE; NONE if there is no such PLACE. */
        int kindAt(int place) {
            if (place < 0 || place / 3 >= variables) {
                return NONE;
            }
            int kind = kinds[place / 3];
            if (place % 3 == 0) {
                return kind;
            }
            return kind == PAIR ? BOX : NONE;
        }

        /** The set of the LEAVES of a PLACE, told by their PLACES. */
        int leavesOf(int place) {
            int kind = kindAt(place);
            if (kind == NONE) {
                return 0;
            }
            return kind == PAIR ? 6 << place : 1 << place;
        }

        int allLeaves() {
            int leaves = 0;
            for (int variable = 0; variable < variables; variable++) {
                leaves |= leavesOf(3 * variable);
            }
            return leaves;
        }

        int ownedLeaves() {
            int leaves = 0;
            for (int variable = 0; variable < variables; variable++) {
                if (isOwned(kindAt(3 * variable))) {
                    leaves |= leavesOf(3 * variable);
                }
            }
            return leaves;
        }

        boolean fits(int sort, int a, int b) {
            int kindA = kindAt(a);
            int kindB = kindAt(b);
            switch (sort) {
                case MAKE: return kindA != NONE && !isBorrowKind(kindA) && isSmall(b);
                case MOVE: return kindA == kindB && (isOwned(kindA) || kindA == ALONE);
                case COPY:
                    return kindA == kindB && (kindA == NUMBER || kindA == SHARED || kindA == COUNTED);
                case BORROW: return kindA == SHARED && canBeLent(kindB);
                case LEND: return kindA == ALONE && canBeLent(kindB);
                case READ: return kindA != NONE && b == 0;
                case WRITE: return kindA != NONE && kindA != PAIR && kindA != SHARED && isSmall(b);
                case DROP: return isOwned(kindA) && b == 0;
                case IF: return kindA == NUMBER && b == 0;
                case LOOP: return a >= 1 && a <= 4 && b == 0;
                case LINK: return kindA == COUNTED && kindB == COUNTED;
                case HOLD:
                case LET_GO: return kindA == COUNTED && b == 0;
                case ELSE:
                case END:
                case PANIC: return a == 0 && b == 0;
                case STEP: return kindA == NUMBER && isSmall(b);
                default: return false;
            }
        }

        int countLoans() {
            int loans = 0;
            for (int line = 0; line < lines; line++) {
                loans += loansOf(sorts[line]);
            }
            return loans;
        }
    }

    /** What each LINE does with its PLACES, LINE by LINE. */
    private static final class Deeds {
        final Program program;
        final int[] used;
        final int[] usedThen;
        final int[] given;
        final int[] usedLeaves;
        final int[] usedThenLeaves;
        final int[] givenLeaves;
        final int[] lostLeaves;
        final int[] borrowsUsed;
        final int[] borrowsGiven;

        Deeds(Program program) {
            this.program = program;
            used = new int[LINE_ROOM];
            usedThen = new int[LINE_ROOM];
            given = new int[LINE_ROOM];
            usedLeaves = new int[LINE_ROOM];
            usedThenLeaves = new int[LINE_ROOM];
            givenLeaves = new int[LINE_ROOM];
            lostLeaves = new int[LINE_ROOM];
            borrowsUsed = new int[LINE_ROOM];
            borrowsGiven = new int[LINE_ROOM];
        }

        void look() {
            for (int line = 0; line < program.lines; line++) {
                used[line] = usedFirst(line);
                usedThen[line] = program.sortAt(line) == LINK ? program.bAt(line) : NONE;
                given[line] = givenBy(line);
                usedLeaves[line] = program.leavesOf(used[line]);
                usedThenLeaves[line] = program.leavesOf(usedThen[line]);
                givenLeaves[line] = program.leavesOf(given[line]);
                lostLeaves[line] = program.leavesOf(lostBy(line));
                borrowsUsed[line] = borrowSet(used[line]);
                borrowsGiven[line] = borrowSet(given[line]);
            }
        }

        private int usedFirst(int line) {
            switch (program.sortAt(line)) {
                case MOVE:
                case COPY:
                case BORROW:
                case LEND: return program.bAt(line);
                case READ:
                case WRITE:
                case DROP:
                case IF:
                case LINK:
                case HOLD:
                case LET_GO:
                case STEP: return program.aAt(line);
                default: return NONE;
            }
        }

        private int givenBy(int line) {
            switch (program.sortAt(line)) {
                case MAKE:
                case MOVE:
                case COPY:
                case BORROW:
                case LEND: return program.aAt(line);
                default: return NONE;
            }
        }

        private int lostBy(int line) {
            switch (program.sortAt(line)) {
                case MOVE: return program.bAt(line);
                case DROP: return program.aAt(line);
                default: return NONE;
            }
        }

        private int borrowSet(int place) {
            return isBorrowKind(program.kindAt(place)) ? 1 << (place / 3) : 0;
        }

        /** The PLACE that a LINE TAKES first (turn 0), or then (turn 1); NONE without one. */
        int takenAt(int line, int turn) {
            int a = program.aAt(line);
            int b = program.bAt(line);
            boolean isFirst = turn == 0;
            int kind = program.kindAt(a);
            switch (program.sortAt(line)) {
                case COPY:
                    if (kind != NUMBER) {
                        return NONE;
                    }
                    return isFirst ? b : a;
                case MOVE:
                    if (isBorrowKind(kind)) {
                        return NONE;
                    }
                    return isFirst ? a : b;
                case BORROW:
                case LEND: return isFirst ? b : NONE;
                case READ:
                case WRITE: return isFirst && !isBorrowKind(kind) ? a : NONE;
                case MAKE:
                case DROP:
                case IF:
                case STEP: return isFirst ? a : NONE;
                default: return NONE;
            }
        }

        boolean isTakenToRead(int line, int turn) {
            int sort = program.sortAt(line);
            return sort == BORROW || sort == IF || sort == READ || (sort == COPY && turn == 0);
        }

        int countUsers(int variable) {
            int users = 0;
            for (int line = 0; line < program.lines; line++) {
                if (isOf(variable, used[line]) || isOf(variable, usedThen[line])) {
                    users++;
                }
            }
            return users;
        }

        int countGivers(int variable) {
            int givers = 0;
            for (int line = 0; line < program.lines; line++) {
                if (isOf(variable, given[line])) {
                    givers++;
                }
            }
            return givers;
        }

        private static boolean isOf(int variable, int place) {
            return place >= 0 && place / 3 == variable;
        }
    }

    /** Which LINES come behind which, or where the program is not WHOLE. */
    private static final class Ways {
        final Program program;
        final int[] first;
        final int[] second;
        /** Of an ELSE and of an END: the IF or LOOP that it belongs to. */
        final int[] opener;
        final int[] elseOf;
        final int[] endOf;
        final int[] open;
        int depth;
        int wrong;

        Ways(Program program) {
            this.program = program;
            first = new int[LINE_ROOM];
            second = new int[LINE_ROOM];
            opener = new int[LINE_ROOM];
            elseOf = new int[LINE_ROOM];
            endOf = new int[LINE_ROOM];
            open = new int[LINE_ROOM];
            depth = 0;
            wrong = NONE;
        }

        boolean isWhole() {
            return wrong == NONE;
        }

        int firstAt(int line) {
            return isWhole() && program.isLine(line) ? first[line] : NONE;
        }

        int secondAt(int line) {
            return isWhole() && program.isLine(line) ? second[line] : NONE;
        }

        int openerAt(int line) {
            return program.isLine(line) ? opener[line] : NONE;
        }

        void look() {
            Arrays.fill(opener, NONE);
            Arrays.fill(elseOf, NONE);
            Arrays.fill(endOf, NONE);
            depth = 0;
            wrong = NONE;
            for (int line = 0; line < program.lines && wrong == NONE; line++) {
                if (!isMatched(line)) {
                    wrong = line;
                }
            }
            if (wrong == NONE && depth > 0) {
                wrong = lastOpen();
            }
            if (wrong == NONE) {
                for (int line = 0; line < program.lines; line++) {
                    setNext(line);
                }
            }
        }

        private int lastOpen() {
            return isIndexOf(open, depth - 1) ? open[depth - 1] : NONE;
        }

        /** Takes the LINE in, as the next one; returns false if it is an ELSE or END that is wrong. */
        private boolean isMatched(int line) {
            int sort = program.sortAt(line);
            if (sort == IF || sort == LOOP) {
                if (isIndexOf(open, depth)) {
                    open[depth] = line;
                    depth++;
                }
                return true;
            }
            if (sort != ELSE && sort != END) {
                return true;
            }
            int last = lastOpen();
            if (!isIndexOf(opener, line) || !isIndexOf(elseOf, last)) {
                return false;
            }
            if (sort == ELSE) {
                if (program.sortAt(last) != IF || elseOf[last] != NONE) {
                    return false;
                }
                elseOf[last] = line;
            } else {
                endOf[last] = line;
                depth--;
            }
            opener[line] = last;
            return true;
        }

        private void setNext(int line) {
            if (!isIndexOf(first, line)) {
                return;
            }
            int behind = line + 1;
            int other = NONE;
            int from = opener[line];
            switch (program.sortAt(line)) {
                case IF:
                    other = elseOf[line] == NONE ? endOf[line] : elseOf[line] + 1;
                    break;
                case ELSE:
                    behind = isIndexOf(endOf, from) ? endOf[from] : NONE;
                    break;
                case END:
                    if (program.sortAt(from) == LOOP) {
                        behind = from + 1;
                        other = line + 1;
                    }
                    break;
                case PANIC:
                    behind = NONE;
                    break;
                default:
                    break;
            }
            first[line] = behind;
            second[line] = other;
        }
    }

    /** The LOANS, numbered as their LINES come. */
    private static final class Loans {
        final Program program;
        final int[] lines;
        final int[] places;
        final boolean[] isOfLend;
        final int[] ofLine;
        int count;

        Loans(Program program) {
            this.program = program;
            lines = new int[MOST_LOANS];
            places = new int[MOST_LOANS];
            isOfLend = new boolean[MOST_LOANS];
            ofLine = new int[LINE_ROOM];
            count = 0;
        }

        void look() {
            count = 0;
            for (int line = 0; line < program.lines; line++) {
                ofLine[line] = NONE;
                int sort = program.sortAt(line);
                if (loansOf(sort) == 1 && isIndexOf(lines, count)) {
                    lines[count] = line;
                    places[count] = program.bAt(line);
                    isOfLend[count] = sort == LEND;
                    ofLine[line] = count;
                    count++;
                }
            }
        }

        boolean isLoan(int loan) {
            return loan >= 0 && loan < count;
        }

        int lineOf(int loan) {
            return isLoan(loan) ? lines[loan] : NONE;
        }

        int placeOf(int loan) {
            return isLoan(loan) ? places[loan] : NONE;
        }

        boolean isLent(int loan) {
            return isLoan(loan) && isOfLend[loan];
        }
    }

    /** The FAULTS, as their LINES come. */
    private static final class Faults {
        final int[] numbers;
        final int[] lines;
        final int[] places;
        final int[] loans;
        int count;

        Faults() {
            numbers = new int[LINE_ROOM];
            lines = new int[LINE_ROOM];
            places = new int[LINE_ROOM];
            loans = new int[LINE_ROOM];
            count = 0;
        }

        void addFault(int number, int line, int place, int loan) {
            if (isIndexOf(numbers, count)) {
                numbers[count] = number;
                lines[count] = line;
                places[count] = place;
                loans[count] = loan;
                count++;
            }
        }

        boolean isFault(int k) {
            return k >= 0 && k < count;
        }

        int fact(int k, int what) {
            if (!isFault(k)) {
                return NONE;
            }
            switch (what) {
                case 0: return numbers[k];
                case 1: return lines[k];
                case 2: return places[k];
                default: return loans[k];
            }
        }

        /** The FAULT that a LINE has; 0 without one. */
        int numberOfLine(int line) {
            for (int k = 0; k < count; k++) {
                if (lines[k] == line) {
                    return numbers[k];
                }
            }
            return 0;
        }
    }

    /** What is known of a program ahead of any RUN. */
    private static final class Check {
        final Program program;
        final Deeds deeds;
        final Ways ways;
        final Loans loans;
        final Faults faults;
        final boolean[] isReached;
        /** Of a LINE: something came there that was not yet carried on to its NEXT LINES. */
        final boolean[] isWaiting;
        final int[] canHave;
        final int[] canLack;
        /** LINE by LINE, for each VARIABLE, the set of LOANS that it can HOLD. */
        final int[] held;
        final int[] heldBehind;
        final int[] wanted;
        int flags;

        Check(Program program) {
            this.program = program;
            deeds = new Deeds(program);
            ways = new Ways(program);
            loans = new Loans(program);
            faults = new Faults();
            isReached = new boolean[LINE_ROOM];
            isWaiting = new boolean[LINE_ROOM];
            canHave = new int[LINE_ROOM];
            canLack = new int[LINE_ROOM];
            held = new int[LINE_ROOM * MOST_VARIABLES];
            heldBehind = new int[MOST_VARIABLES];
            wanted = new int[LINE_ROOM];
            flags = 0;
        }

        void look() {
            clear();
            deeds.look();
            loans.look();
            ways.look();
            if (!ways.isWhole()) {
                faults.addFault(FAULT_NOT_WHOLE, ways.wrong, NONE, NONE);
                return;
            }
            followWays();
            findWanted();
            for (int line = 0; line < program.lines; line++) {
                if (isReached[line]) {
                    findFault(line);
                }
            }
            findFlags();
        }

        private void clear() {
            for (int line = 0; line < LINE_ROOM; line++) {
                isReached[line] = false;
                isWaiting[line] = false;
                canHave[line] = 0;
                canLack[line] = 0;
                wanted[line] = 0;
            }
            Arrays.fill(held, 0);
            faults.count = 0;
            flags = 0;
        }

        private void followWays() {
            isReached[0] = true;
            isWaiting[0] = true;
            canLack[0] = program.allLeaves();
            boolean isMore = true;
            for (int round = 0; round < MOST_ROUNDS && isMore; round++) {
                isMore = false;
                for (int line = 0; line < program.lines; line++) {
                    if (isWaiting[line]) {
                        isWaiting[line] = false;
                        isMore = true;
                        passOn(line);
                    }
                }
            }
        }

        /** Carries what stands behind a LINE to its NEXT LINES. */
        private void passOn(int line) {
            int given = deeds.givenLeaves[line];
            int lost = deeds.lostLeaves[line];
            int have = (canHave[line] & ~lost) | given;
            int lack = (canLack[line] | lost) & ~given;
            for (int variable = 0; variable < program.variables; variable++) {
                heldBehind[variable] = held[line * MOST_VARIABLES + variable];
            }
            if (deeds.borrowsGiven[line] != 0) {
                setHeldByGiven(line);
            }
            comeTo(ways.firstAt(line), have, lack);
            comeTo(ways.secondAt(line), have, lack);
        }

        private void setHeldByGiven(int line) {
            int variable = deeds.given[line] / 3;
            if (!isIndexOf(heldBehind, variable)) {
                return;
            }
            int loan = loans.ofLine[line];
            if (loan != NONE) {
                heldBehind[variable] = 1 << loan;
            } else {
                heldBehind[variable] = heldBy(line, deeds.used[line] / 3);
            }
        }

        private void comeTo(int line, int have, int lack) {
            if (!program.isLineOrEnd(line)) {
                return;
            }
            boolean isNew = !isReached[line] || (have & ~canHave[line]) != 0 || (lack & ~canLack[line]) != 0;
            canHave[line] |= have;
            canLack[line] |= lack;
            for (int variable = 0; variable < program.variables; variable++) {
                int at = line * MOST_VARIABLES + variable;
                isNew = isNew || (heldBehind[variable] & ~held[at]) != 0;
                held[at] |= heldBehind[variable];
            }
            isReached[line] = true;
            isWaiting[line] = isWaiting[line] || isNew;
        }

        private void findWanted() {
            boolean isMore = true;
            for (int round = 0; round < MOST_ROUNDS && isMore; round++) {
                isMore = false;
                for (int line = program.lines - 1; line >= 0; line--) {
                    int set = wantedBehind(line) & ~deeds.borrowsGiven[line];
                    set |= deeds.borrowsUsed[line];
                    isMore = isMore || set != wanted[line];
                    wanted[line] = set;
                }
            }
        }

        /** The set of the BORROWS that are WANTED ahead of one of the NEXT LINES. */
        private int wantedBehind(int line) {
            return wantedAt(ways.firstAt(line)) | wantedAt(ways.secondAt(line));
        }

        int wantedAt(int line) {
            return program.isLine(line) ? wanted[line] : 0;
        }

        private void findFault(int line) {
            int lacking = deeds.usedLeaves[line] & canLack[line];
            if (lacking == 0) {
                lacking = deeds.usedThenLeaves[line] & canLack[line];
            }
            if (lacking != 0) {
                int leaf = Integer.numberOfTrailingZeros(lacking);
                boolean canHaveIt = (canHave[line] & (1 << leaf)) != 0;
                faults.addFault(canHaveIt ? FAULT_MAY_NOT_HAVE : FAULT_HAS_NOT, line, leaf, NONE);
                return;
            }
            int borrows = wantedBehind(line) & ~deeds.borrowsGiven[line];
            for (int turn = 0; turn <= 1; turn++) {
                int place = deeds.takenAt(line, turn);
                boolean isRead = deeds.isTakenToRead(line, turn);
                int loan = smallestLoan(line, place, borrows, isRead);
                if (loan != NONE) {
                    faults.addFault(isRead ? FAULT_READ : FAULT_WRITE, line, place, loan);
                    return;
                }
            }
        }

        /** The smallest LOAN of what MEETS the PLACE that one of the BORROWS can HOLD ahead of the LINE. */
        int smallestLoan(int line, int place, int borrows, boolean isOnlyLent) {
            if (place == NONE) {
                return NONE;
            }
            int set = heldByAny(line, borrows);
            for (int loan = 0; loan < loans.count; loan++) {
                boolean isOne = (set & (1 << loan)) != 0 && meets(loans.placeOf(loan), place);
                if (isOne && (!isOnlyLent || loans.isLent(loan))) {
                    return loan;
                }
            }
            return NONE;
        }

        private int heldByAny(int line, int borrows) {
            int set = 0;
            for (int variable = 0; variable < program.variables; variable++) {
                if ((borrows & (1 << variable)) != 0) {
                    set |= heldBy(line, variable);
                }
            }
            return set;
        }

        int heldBy(int line, int variable) {
            boolean isThere = line >= 0 && line < LINE_ROOM && variable >= 0 && variable < MOST_VARIABLES;
            return isThere ? held[line * MOST_VARIABLES + variable] : 0;
        }

        /** The greatest LINE that USES a BORROW that can HOLD the LOAN ahead of it. */
        int lastUse(int loan) {
            if (!loans.isLoan(loan)) {
                return NONE;
            }
            for (int line = program.lines - 1; line >= 0; line--) {
                int set = heldByAny(line, deeds.borrowsUsed[line]);
                if ((set & (1 << loan)) != 0) {
                    return line;
                }
            }
            return NONE;
        }

        private void findFlags() {
            for (int line = 0; line < program.lines; line++) {
                switch (program.sortAt(line)) {
                    case MAKE:
                    case MOVE:
                    case COPY:
                        flags |= unsureAt(line) & deeds.givenLeaves[line];
                        break;
                    case HOLD:
                    case PANIC:
                        flags |= unsureAt(line);
                        break;
                    default:
                        break;
                }
            }
            flags |= unsureAt(program.lines);
            flags &= program.ownedLeaves();
        }

        /** The LEAVES that may both HAVE and NOT; a DEAD LINE has none, as nothing has come there. */
        private int unsureAt(int line) {
            return program.isLineOrEnd(line) ? canHave[line] & canLack[line] : 0;
        }

        boolean isDead(int line) {
            return ways.isWhole() && program.isLine(line) && !isReached[line];
        }

        int stateAt(int line, int place) {
            if (!program.isLineOrEnd(line) || !isReached[line]) {
                return 0;
            }
            int leaves = program.leavesOf(place);
            if ((canHave[line] & leaves) != leaves) {
                return 2;
            }
            return (canLack[line] & leaves) == 0 ? 1 : 3;
        }

        /** The set of the LEAVES of a VARIABLE that need a FLAG: 0 for PART 0 or itself, 1 for PART 1. */
        int flagsOf(int variable) {
            int place = 3 * variable;
            int leaves = flags & program.leavesOf(place);
            return program.kindAt(place) == PAIR ? leaves >>> (place + 1) : leaves >>> place;
        }

        int countDead() {
            int dead = 0;
            for (int line = 0; line < program.lines; line++) {
                if (isDead(line)) {
                    dead++;
                }
            }
            return dead;
        }

        int mostWanted() {
            int most = 0;
            for (int line = 0; line < program.lines; line++) {
                most = Math.max(most, Integer.bitCount(wanted[line]));
            }
            return most;
        }
    }

    /** What was told in a RUN: all is counted, the first ones are kept. */
    private static final class Story {
        final int[] sorts;
        final int[] numbers;
        final int[] lines;
        int count;

        Story() {
            sorts = new int[MOST_KEPT];
            numbers = new int[MOST_KEPT];
            lines = new int[MOST_KEPT];
            count = 0;
        }

        void tell(int sort, int number, int line) {
            if (isIndexOf(sorts, count)) {
                sorts[count] = sort;
                numbers[count] = number;
                lines[count] = line;
            }
            count++;
        }

        int countKept() {
            return Math.min(count, MOST_KEPT);
        }

        boolean isKept(int k) {
            return k >= 0 && k < countKept();
        }

        int fact(int k, int what) {
            if (!isKept(k)) {
                return NONE;
            }
            switch (what) {
                case 0: return sorts[k];
                case 1: return numbers[k];
                default: return lines[k];
            }
        }

        double meanOfReads() {
            int sum = 0;
            int reads = 0;
            int kept = countKept();
            for (int k = 0; k < kept; k++) {
                if (sorts[k] == TOLD_READ) {
                    sum += numbers[k];
                    reads++;
                }
            }
            return reads == 0 ? 0.0 : (double) sum / (double) reads;
        }
    }

    /** The NODES of a RUN; a LINE makes one at most, so there are never more than STEPS. */
    private static final class Nodes {
        final int[] numbers;
        final int[] counts;
        final int[] links;
        final boolean[] isHeld;
        int made;
        int gone;

        Nodes() {
            numbers = new int[MOST_STEPS];
            counts = new int[MOST_STEPS];
            links = new int[MOST_STEPS];
            isHeld = new boolean[MOST_STEPS];
            made = 0;
            gone = 0;
        }

        void clear() {
            made = 0;
            gone = 0;
        }

        boolean isNode(int node) {
            return node >= 0 && node < made;
        }

        int newNode(int number) {
            if (!isIndexOf(numbers, made)) {
                return NONE;
            }
            numbers[made] = number;
            counts[made] = 1;
            links[made] = NONE;
            isHeld[made] = false;
            made++;
            return made - 1;
        }

        int numberOf(int node) {
            return isNode(node) ? numbers[node] : 0;
        }

        void setNumber(int node, int number) {
            if (isNode(node)) {
                numbers[node] = number;
            }
        }

        void countUp(int node) {
            if (isNode(node)) {
                counts[node]++;
            }
        }

        /** Counts 1 less; returns whether the NODE came to 0. */
        boolean isAtEnd(int node) {
            if (!isNode(node)) {
                return false;
            }
            counts[node]--;
            if (counts[node] == 0) {
                gone++;
                return true;
            }
            return false;
        }

        int linkOf(int node) {
            return isNode(node) ? links[node] : NONE;
        }

        void setLink(int node, int to) {
            if (isNode(node)) {
                links[node] = to;
            }
        }

        boolean isHeldNow(int node) {
            return isNode(node) && isHeld[node];
        }

        void setHeld(int node, boolean isHeldThen) {
            if (isNode(node)) {
                isHeld[node] = isHeldThen;
            }
        }
    }

    /** A RUN of a program that has no FAULTS. */
    private static final class Run {
        final Program program;
        final Ways ways;
        final Story story;
        final Nodes nodes;
        final boolean[] has;
        /** Of a BOX or NUMBER its number, of a COUNTED its NODE, of a BORROW the PLACE of its LOAN. */
        final int[] value;
        final int[] roundsLeft;
        /** What was there ahead: a LINE sets it aside, and it is dropped behind all else that the LINE does. */
        final int[] olds;
        int oldKind;
        int oldCount;
        int here;
        int outcome;
        int steps;
        int boxesMade;
        int boxesDropped;
        int panicLine;
        boolean isAborted;

        Run(Program program, Ways ways) {
            this.program = program;
            this.ways = ways;
            story = new Story();
            nodes = new Nodes();
            has = new boolean[PLACE_ROOM];
            value = new int[PLACE_ROOM];
            roundsLeft = new int[LINE_ROOM];
            olds = new int[2];
            oldKind = NONE;
            oldCount = 0;
            here = 0;
            outcome = 0;
            steps = 0;
            boxesMade = 0;
            boxesDropped = 0;
            panicLine = NONE;
            isAborted = false;
        }

        int countLeaked() {
            return boxesMade + nodes.made - boxesDropped - nodes.gone;
        }

        void go() {
            clear();
            while (steps < MOST_STEPS && program.isLine(here) && panicLine == NONE) {
                steps++;
                doLine(program.sortAt(here), program.aAt(here), program.bAt(here));
                dropOlds();
                if (panicLine == NONE) {
                    here = lineBehind(here);
                }
            }
            if (panicLine == NONE && program.isLine(here)) {
                outcome = TOO_LONG;
                return;
            }
            here = program.lines;
            unwind();
            if (isAborted) {
                outcome = ABORTED;
            } else {
                outcome = panicLine == NONE ? ENDED : PANICKED;
            }
        }

        private void clear() {
            story.count = 0;
            nodes.clear();
            for (int place = 0; place < PLACE_ROOM; place++) {
                has[place] = false;
                value[place] = 0;
            }
            Arrays.fill(roundsLeft, 0);
            oldCount = 0;
            here = 0;
            steps = 0;
            boxesMade = 0;
            boxesDropped = 0;
            panicLine = NONE;
            isAborted = false;
        }

        private int lineBehind(int line) {
            int sort = program.sortAt(line);
            if (sort == IF) {
                return numberAt(program.aAt(line)) > 0 ? ways.firstAt(line) : ways.secondAt(line);
            }
            if (sort == LOOP && isIndexOf(roundsLeft, line)) {
                roundsLeft[line] = program.aAt(line);
            }
            int opener = ways.openerAt(line);
            if (sort == END && program.sortAt(opener) == LOOP && isIndexOf(roundsLeft, opener)) {
                roundsLeft[opener]--;
                return roundsLeft[opener] > 0 ? ways.firstAt(line) : ways.secondAt(line);
            }
            return ways.firstAt(line);
        }

        private void doLine(int sort, int a, int b) {
            switch (sort) {
                case MAKE:
                    make(a, b);
                    break;
                case MOVE:
                    move(a, b);
                    break;
                case COPY:
                    copy(a, b);
                    break;
                case BORROW:
                case LEND:
                    give(a, b, 0);
                    break;
                case READ:
                    read(a);
                    break;
                case WRITE:
                    write(a, b);
                    break;
                case DROP:
                    drop(a);
                    break;
                case LINK:
                    link(valueAt(a), valueAt(b));
                    break;
                case HOLD:
                    hold(valueAt(a));
                    break;
                case LET_GO:
                    nodes.setHeld(valueAt(a), false);
                    break;
                case PANIC:
                    panic();
                    break;
                case STEP:
                    setValue(a, valueAt(a) + b);
                    break;
                default:
                    break;
            }
        }

        private void panic() {
            if (panicLine == NONE) {
                panicLine = here;
            } else {
                isAborted = true;
            }
        }

        private void make(int a, int b) {
            int kind = program.kindAt(a);
            if (kind == BOX) {
                boxesMade++;
            } else if (kind == PAIR) {
                boxesMade += 2;
            }
            give(a, kind == COUNTED ? nodes.newNode(b) : b, b + 1);
        }

        /** What b has is taken first, so that a MOVE of a PLACE to itself finds nothing to DROP there. */
        private void move(int a, int b) {
            int leaf = firstLeaf(b);
            int first = valueAt(leaf);
            int second = valueAt(leaf + 1);
            setEmpty(leaf);
            if (program.kindAt(b) == PAIR) {
                setEmpty(leaf + 1);
            }
            give(a, first, second);
        }

        private void copy(int a, int b) {
            if (program.kindAt(b) == COUNTED) {
                nodes.countUp(valueAt(b));
            }
            give(a, valueAt(b), 0);
        }

        /** Lets a PLACE have something new (second is for PART 1 of a PAIR). */
        private void give(int place, int first, int second) {
            int leaf = firstLeaf(place);
            drop(place);
            setValue(leaf, first);
            if (program.kindAt(place) == PAIR) {
                setValue(leaf + 1, second);
            }
        }

        private void drop(int place) {
            int kind = program.kindAt(place);
            if (kind == PAIR) {
                setAside(kind, place + 1);
                setAside(kind, place + 2);
            } else {
                setAside(kind, place);
            }
        }

        private void setAside(int kind, int leaf) {
            if (leaf < 0 || leaf >= PLACE_ROOM || !has[leaf]) {
                return;
            }
            has[leaf] = false;
            if (oldCount < olds.length) {
                oldKind = kind;
                olds[oldCount] = value[leaf];
                oldCount++;
            }
        }

        /** Drops what was set aside; behind an ABORT nothing more is done. */
        private void dropOlds() {
            for (int k = 0; k < oldCount && k < olds.length && !isAborted; k++) {
                if (oldKind == COUNTED) {
                    letDown(olds[k]);
                } else if (isOwned(oldKind)) {
                    dropBox(olds[k]);
                }
            }
            oldCount = 0;
        }

        private void dropBox(int number) {
            boxesDropped++;
            story.tell(TOLD_BOX, number, here);
            if (number < 0) {
                panic();
            }
        }

        private void letDown(int node) {
            int next = node;
            for (int passed = 0; passed < MOST_STEPS && nodes.isAtEnd(next); passed++) {
                story.tell(TOLD_NODE, nodes.numberOf(next), here);
                next = nodes.linkOf(next);
            }
        }

        private void link(int from, int to) {
            nodes.countUp(to);
            int before = nodes.linkOf(from);
            nodes.setLink(from, to);
            if (before != NONE && oldCount < olds.length) {
                oldKind = COUNTED;
                olds[oldCount] = before;
                oldCount++;
            }
        }

        private void hold(int node) {
            if (nodes.isHeldNow(node)) {
                panic();
            } else {
                nodes.setHeld(node, true);
            }
        }

        private void read(int place) {
            int kind = program.kindAt(place);
            if (kind == COUNTED) {
                int node = valueAt(place);
                if (nodes.isHeldNow(node)) {
                    panic();
                } else {
                    story.tell(TOLD_READ, nodes.numberOf(node), here);
                }
            } else {
                int from = isBorrowKind(kind) ? valueAt(place) : place;
                story.tell(TOLD_READ, numberAt(from), here);
            }
        }

        private void write(int place, int number) {
            int kind = program.kindAt(place);
            if (kind == COUNTED) {
                int node = valueAt(place);
                if (nodes.isHeldNow(node)) {
                    panic();
                } else {
                    nodes.setNumber(node, number);
                }
            } else {
                writeNumber(isBorrowKind(kind) ? valueAt(place) : place, number);
            }
        }

        private int numberAt(int place) {
            int leaf = firstLeaf(place);
            return program.kindAt(place) == PAIR ? valueAt(leaf) + valueAt(leaf + 1) : valueAt(leaf);
        }

        private void writeNumber(int place, int number) {
            int leaf = firstLeaf(place);
            setValue(leaf, number);
            if (program.kindAt(place) == PAIR) {
                setValue(leaf + 1, number);
            }
        }

        private void unwind() {
            for (int variable = program.variables - 1; variable >= 0 && !isAborted; variable--) {
                if (isOwned(program.kindAt(3 * variable))) {
                    drop(3 * variable);
                    dropOlds();
                }
            }
        }

        private int firstLeaf(int place) {
            return program.kindAt(place) == PAIR ? place + 1 : place;
        }

        private int valueAt(int leaf) {
            return isIndexOf(value, leaf) ? value[leaf] : 0;
        }

        private void setValue(int leaf, int then) {
            if (leaf >= 0 && leaf < PLACE_ROOM) {
                has[leaf] = true;
                value[leaf] = then;
            }
        }

        private void setEmpty(int leaf) {
            if (leaf >= 0 && leaf < PLACE_ROOM) {
                has[leaf] = false;
            }
        }
    }
}
