/** Counts and tells what is not as it is due. */
final class Due {
    interface Call {
        void make();
    }

    private static int wrong = 0;
    private static int calls = 0;

    private Due() {
    }

    static void is(String call, long got, long want) {
        calls++;
        if (got != want) {
            wrong++;
            System.out.println(call + " answered " + got + ", due is " + want);
        }
    }

    static void is(String call, double got, double want) {
        calls++;
        if (Double.compare(got, want) != 0) {
            wrong++;
            System.out.println(call + " answered " + got + ", due is " + want);
        }
    }

    static void is(String call, boolean got, boolean want) {
        is(call, got ? 1L : 0L, want ? 1L : 0L);
    }

    /** The call throws exactly this, and changes nothing that the digest tells. */
    static void fails(DropflagMill mill, Class<?> want, String call, Call made) {
        long before = mill.digest();
        thrownIs(want, call, made);
        is("digest() behind " + call, mill.digest(), before);
    }

    /** The call throws exactly this. */
    static void thrownIs(Class<?> want, String call, Call made) {
        calls++;
        Class<?> got = null;
        try {
            made.make();
        } catch (RuntimeException e) {
            got = e.getClass();
        }
        if (got != want) {
            wrong++;
            System.out.println(call + " threw " + got + ", due is " + want);
        }
    }

    /** The call throws exactly this, and leaves all that can be asked as it was; for small programs. */
    static void leavesAll(DropflagMill mill, Class<?> want, String call, Call made) {
        String before = all(mill);
        thrownIs(want, call, made);
        same("all behind " + call, all(mill), before);
    }

    static void same(String call, String got, String want) {
        calls++;
        if (!got.equals(want)) {
            wrong++;
            System.out.println(call + " is " + got + ", due is " + want);
        }
    }

    /** All that can be asked of a mill without a RUN, in words. */
    static String all(DropflagMill x) {
        StringBuilder all = new StringBuilder();
        for (int what = 0; what <= 6; what++) {
            all.append(" m").append(x.many(what));
        }
        for (int v = 0; v < x.many(0); v++) {
            for (int what = 0; what <= 3; what++) {
                all.append(" v").append(x.ofVariable(v, what));
            }
        }
        for (int line = 0; line <= x.many(1); line++) {
            ofOneLine(x, line, all.append("\n").append(line));
        }
        for (int loan = 0; loan < x.many(3); loan++) {
            for (int what = 0; what <= 3; what++) {
                all.append(" l").append(x.ofLoan(loan, what));
            }
        }
        for (int k = 0; k < x.many(2); k++) {
            for (int what = 0; what <= 4; what++) {
                all.append(" f").append(x.fault(k, what));
            }
        }
        for (int what = 0; what <= 9; what++) {
            all.append(" r").append(x.ofRun(what));
        }
        for (int k = 0; k < Math.min(60, x.ofRun(2)); k++) {
            for (int what = 0; what <= 2; what++) {
                all.append(" t").append(x.told(k, what));
            }
        }
        return all.append(" ").append(x.meanRead()).append(" ").append(x.digest()).toString();
    }

    private static void ofOneLine(DropflagMill x, int line, StringBuilder all) {
        for (int what = 0; what <= 5 && line < x.many(1); what++) {
            all.append(" ").append(x.ofLine(line, what));
        }
        for (int v = 0; v < x.many(0); v++) {
            int kind = x.ofVariable(v, 0);
            for (int place = 3 * v; place <= 3 * v + (kind == 2 ? 2 : 0); place++) {
                all.append(" s").append(x.state(line, place)).append(" w").append(x.inTheWay(line, place));
            }
            if (kind == 3 || kind == 4) {
                all.append(" h").append(x.holds(line, v)).append(" ").append(x.isWanted(line, v));
            }
        }
    }

    static void end() {
        System.out.println(calls + " answers, " + wrong + " wrong");
        System.exit(wrong == 0 ? 0 : 1);
    }

    /** A mill with VARIABLES of these KINDS and these LINES, each {SORT, a, b}. */
    static DropflagMill mill(int[] kinds, int[][] lines) {
        DropflagMill mill = new DropflagMill();
        for (int kind : kinds) {
            mill.variable(kind);
        }
        for (int[] line : lines) {
            mill.add(line[0], line[1], line[2]);
        }
        return mill;
    }
}
