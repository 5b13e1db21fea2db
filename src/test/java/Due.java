/** Counts and tells what is not as it is due. */
final class Due {
    interface Call {
        void make();
    }

    private static int wrong = 0;
    private static int calls = 0;

    private Due() {
    }

    static void is(String call, long got, long want) {
        calls++;
        if (got != want) {
            wrong++;
            System.out.println(call + " answered " + got + ", due is " + want);
        }
    }

    static void is(String call, double got, double want) {
        calls++;
        if (Double.compare(got, want) != 0) {
            wrong++;
            System.out.println(call + " answered " + got + ", due is " + want);
        }
    }

    static void is(String call, boolean got, boolean want) {
        is(call, got ? 1L : 0L, want ? 1L : 0L);
    }

    /** The call throws exactly this, and changes nothing that the digest tells. */
    static void fails(DropflagMill mill, Class<?> want, String call, Call made) {
        calls++;
        long before = mill.digest();
        Class<?> got = null;
        try {
            made.make();
        } catch (RuntimeException e) {
            got = e.getClass();
        }
        if (got != want) {
            wrong++;
            System.out.println(call + " threw " + got + ", due is " + want);
        }
        is("digest() behind " + call, mill.digest(), before);
    }

    static void end() {
        System.out.println(calls + " answers, " + wrong + " wrong");
        System.exit(wrong == 0 ? 0 : 1);
    }

    /** A mill with VARIABLES of these KINDS and these LINES, each {SORT, a, b}. */
    static DropflagMill mill(int[] kinds, int[][] lines) {
        DropflagMill mill = new DropflagMill();
        for (int kind : kinds) {
            mill.variable(kind);
        }
        for (int[] line : lines) {
            mill.add(line[0], line[1], line[2]);
        }
        return mill;
    }
}
