/** Promises 1 to 6: a new object, VARIABLES and LINES. */
public final class LinesTest {
    private static final Class<?> INDEX = IndexOutOfBoundsException.class;
    private static final Class<?> ARGUMENT = IllegalArgumentException.class;
    private static final Class<?> STATE = IllegalStateException.class;

    public static void main(String[] args) {
        newObject();
        variables();
        whatFits();
        addFull();
        putAndCut();
        nextLines();
        noVariables();
        Due.end();
    }

    private static void newObject() {
        DropflagMill x = new DropflagMill();
        for (int what = 0; what <= 6; what++) {
            Due.is("new many(" + what + ")", x.many(what), 0);
        }
        for (int what = 0; what <= 9; what++) {
            Due.is("new ofRun(" + what + ")", x.ofRun(what), 0);
        }
        Due.is("new meanRead()", x.meanRead(), 0.0);
        Due.fails(x, INDEX, "ofLine(0, 0)", () -> x.ofLine(0, 0));
        Due.fails(x, INDEX, "ofLoan(0, 0)", () -> x.ofLoan(0, 0));
        Due.fails(x, INDEX, "fault(0, 0)", () -> x.fault(0, 0));
        Due.fails(x, INDEX, "told(0, 0)", () -> x.told(0, 0));
        Due.fails(x, INDEX, "ofVariable(0, 0)", () -> x.ofVariable(0, 0));
        Due.fails(x, INDEX, "state(0, 0)", () -> x.state(0, 0));
        Due.fails(x, INDEX, "leakedBy(0)", () -> x.leakedBy(0));
        Due.fails(x, INDEX, "faultsWithout(0)", () -> x.faultsWithout(0));
        Due.fails(x, STATE, "cut()", () -> x.cut());
        Due.is("run() of nothing", x.run(), 0);
        Due.is("ofRun(1)", x.ofRun(1), 0);
        Due.is("ofRun(8)", x.ofRun(8), -1);
        Due.is("ofRun(9)", x.ofRun(9), 1);
    }

    private static void variables() {
        DropflagMill x = new DropflagMill();
        Due.fails(x, ARGUMENT, "variable(-1)", () -> x.variable(-1));
        Due.fails(x, ARGUMENT, "variable(6)", () -> x.variable(6));
        Due.fails(x, ARGUMENT, "variable(min)", () -> x.variable(Integer.MIN_VALUE));
        for (int v = 0; v < 8; v++) {
            Due.is("variable " + v, x.variable(v % 6), v);
            Due.is("its kind", x.ofVariable(v, 0), v % 6);
            Due.is("many(0)", x.many(0), v + 1);
        }
        Due.fails(x, STATE, "9th variable", () -> x.variable(0));
        Due.fails(x, ARGUMENT, "9th variable, no kind", () -> x.variable(6));
    }

    /** Each SORT with every PLACE as a and b, and with numbers at the edges. */
    private static void whatFits() {
        int[] kinds = {0, 1, 2, 3, 4, 5, 2, 0};
        Model model = new Model(java.util.Arrays.stream(kinds).boxed().toList(), java.util.List.of());
        DropflagMill x = Due.mill(kinds, new int[][] {});
        int[] edges = {-100, -99, -1, 99, 100, Integer.MIN_VALUE, Integer.MAX_VALUE};
        for (int sort = -2; sort <= 18; sort++) {
            for (int a = -3; a <= 26; a++) {
                for (int b = -3; b <= 26; b++) {
                    fits(x, model, sort, a, b);
                }
                for (int edge : edges) {
                    fits(x, model, sort, a, edge);
                    fits(x, model, sort, edge, a);
                }
            }
        }
        fits(x, model, Integer.MAX_VALUE, 0, 0);
        fits(x, model, Integer.MIN_VALUE, 0, 0);
    }

    private static void fits(DropflagMill x, Model model, int sort, int a, int b) {
        String call = "add(" + sort + ", " + a + ", " + b + ")";
        boolean fits = model.fits(sort, a, b);
        try {
            Due.is(call, x.add(sort, a, b), 0);
            Due.is(call + " is taken", fits, true);
            Due.is("its sort", x.ofLine(0, 0), sort);
            Due.is("its a", x.ofLine(0, 1), a);
            Due.is("its b", x.ofLine(0, 2), b);
            Due.is("put of " + call, x.put(0, sort, a, b), sort);
            x.cut();
        } catch (IllegalArgumentException e) {
            Due.is(call + " is taken", fits, false);
            Due.is("many(1) behind it", x.many(1), 0);
        }
    }

    private static void addFull() {
        DropflagMill x = Due.mill(new int[] {0, 3, 4}, new int[][] {});
        for (int line = 0; line < 32; line++) {
            int sort = line < 16 ? 3 + line % 2 : 5;
            int a = sort == 5 ? 0 : 3 * (sort - 2);
            Due.is("add " + line, x.add(sort, a, 0), line);
            if (line == 15) {
                Due.is("16 loans", x.many(3), 16);
                Due.fails(x, STATE, "17th loan", () -> x.add(3, 3, 0));
                Due.fails(x, STATE, "17th loan", () -> x.add(4, 6, 0));
                Due.fails(x, ARGUMENT, "17th loan, wrong", () -> x.add(4, 3, 0));
            }
        }
        Due.is("32 lines", x.many(1), 32);
        Due.fails(x, STATE, "33rd line", () -> x.add(5, 0, 0));
        Due.fails(x, ARGUMENT, "33rd line, wrong", () -> x.add(5, 0, 1));
        Due.fails(x, STATE, "put of a 17th loan", () -> x.put(16, 3, 3, 0));
        Due.fails(x, ARGUMENT, "put of a 17th loan, wrong", () -> x.put(16, 3, 6, 0));
        Due.fails(x, INDEX, "put at 32", () -> x.put(32, 3, 6, 0));
        Due.is("put of a loan for a loan", x.put(3, 3, 3, 0), 4);
        Due.is("put of no loan", x.put(3, 5, 0, 0), 3);
        Due.is("15 loans", x.many(3), 15);
        Due.is("put of the 16th", x.put(31, 4, 6, 0), 5);
        Due.is("its line", x.ofLoan(15, 0), 31);
    }

    private static void putAndCut() {
        DropflagMill x = Due.mill(new int[] {0, 1}, new int[][] {{0, 0, 5}, {0, 3, 6}, {5, 0, 0}});
        Due.fails(x, INDEX, "put(-1)", () -> x.put(-1, 5, 0, 0));
        Due.fails(x, INDEX, "put(3)", () -> x.put(3, 5, 0, 0));
        Due.fails(x, INDEX, "put(3), wrong too", () -> x.put(3, 17, 0, 0));
        Due.fails(x, ARGUMENT, "put of no sort", () -> x.put(0, 17, 0, 0));
        Due.fails(x, ARGUMENT, "put of a wrong b", () -> x.put(0, 0, 0, 100));
        Due.is("put", x.put(2, 6, 0, -99), 5);
        Due.is("ofLine(2, 0)", x.ofLine(2, 0), 6);
        Due.is("ofLine(2, 1)", x.ofLine(2, 1), 0);
        Due.is("ofLine(2, 2)", x.ofLine(2, 2), -99);
        Due.is("ofLine(1, 1)", x.ofLine(1, 1), 3);
        Due.fails(x, INDEX, "ofLine(3, 0)", () -> x.ofLine(3, 0));
        Due.fails(x, INDEX, "ofLine(-1, 9)", () -> x.ofLine(-1, 9));
        Due.fails(x, ARGUMENT, "ofLine(0, 6)", () -> x.ofLine(0, 6));
        Due.fails(x, ARGUMENT, "ofLine(0, -1)", () -> x.ofLine(0, -1));
        Due.is("cut()", x.cut(), 6);
        Due.is("cut()", x.cut(), 0);
        Due.is("many(1)", x.many(1), 1);
        Due.is("cut()", x.cut(), 0);
        Due.fails(x, STATE, "cut()", () -> x.cut());
        Due.is("add behind cuts", x.add(5, 3, 0), 0);
    }

    private static void nextLines() {
        // 0 IF, 1 LOOP, 2 PANIC, 3 END, 4 ELSE, 5 IF, 6 END, 7 END, 8 LOOP, 9 END
        int[][] lines = {{8, 0, 0}, {10, 2, 0}, {15, 0, 0}, {11, 0, 0}, {9, 0, 0}, {8, 0, 0}, {11, 0, 0},
            {11, 0, 0}, {10, 1, 0}, {11, 0, 0}};
        DropflagMill x = Due.mill(new int[] {0}, lines);
        int[] first = {1, 2, -1, 2, 7, 6, 7, 8, 9, 9};
        int[] second = {5, -1, -1, 4, -1, 6, -1, -1, -1, 10};
        int[] dead = {0, 0, 0, 1, 1, 0, 0, 0, 0, 0};
        for (int line = 0; line < lines.length; line++) {
            Due.is("ofLine(" + line + ", 3)", x.ofLine(line, 3), first[line]);
            Due.is("ofLine(" + line + ", 4)", x.ofLine(line, 4), second[line]);
            Due.is("ofLine(" + line + ", 5)", x.ofLine(line, 5), dead[line]);
        }
        Due.is("dead lines", x.many(5), 2);
        x.cut();
        for (int line = 0; line < 9; line++) {
            Due.is("not whole: ofLine(" + line + ", 3)", x.ofLine(line, 3), -1);
            Due.is("not whole: ofLine(" + line + ", 4)", x.ofLine(line, 4), -1);
            Due.is("not whole: ofLine(" + line + ", 5)", x.ofLine(line, 5), 0);
        }
        Due.is("not whole: dead lines", x.many(5), 0);
        Due.is("not whole: the loop", x.fault(0, 1), 8);
    }

    /** LINES need no VARIABLES; ways are found without them, too. */
    private static void noVariables() {
        DropflagMill x = Due.mill(new int[] {}, new int[][] {{10, 3, 0}, {11, 0, 0}, {15, 0, 0}, {10, 1, 0}, {11, 0, 0}});
        int[] dead = {0, 0, 0, 1, 1};
        for (int line = 0; line < dead.length; line++) {
            Due.is("ofLine(" + line + ", 5)", x.ofLine(line, 5), dead[line]);
        }
        Due.is("many(5)", x.many(5), 2);
        Due.is("run()", x.run(), 1);
        Due.is("ofRun(1)", x.ofRun(1), 5);
        Due.is("leakedBy(0)", x.leakedBy(0), -1);
        Due.is("faultsWithout(0)", x.faultsWithout(0), 1);
        Due.fails(x, INDEX, "state(0, 0)", () -> x.state(0, 0));
        Due.fails(x, ARGUMENT, "add(5, 0, 0)", () -> x.add(5, 0, 0));
        Due.is("a variable behind lines", x.variable(1), 0);
        Due.is("state(0, 0)", x.state(0, 0), 2);
        Due.is("dead: state(3, 0)", x.state(3, 0), 0);
    }
}
