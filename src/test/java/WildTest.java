/**
 * Calls with numbers of all sorts, 512 to an object: whatever they answer, they throw nothing but what
 * the document names for them, the class itself and none below it, and what throws changes nothing.
 */
public final class WildTest {
    private static long seed = 4711;
    private static int wrong = 0;
    private static int thrown = 0;
    private static final String[] CALLS = {"variable", "add", "put", "cut", "ofLine", "state", "holds", "isWanted",
        "inTheWay", "ofLoan", "fault", "ofVariable", "run", "ofRun", "told", "many", "meanRead", "faultsWithout",
        "couldDrop", "leakedBy", "outcomeWith", "digest"};
    /** Which each call may throw: I index, A argument, S state. */
    private static final String[] MAY = {"AS", "AS", "IAS", "S", "IA", "I", "I", "I", "I", "IA", "IA", "IA", "S", "A",
        "IA", "A", "", "I", "I", "I", "IA", ""};

    public static void main(String[] args) {
        int objects = args.length > 0 ? Integer.parseInt(args[0]) : 300;
        for (int object = 0; object < objects && wrong < 20; object++) {
            DropflagMill x = new DropflagMill();
            for (int call = 0; call < 512; call++) {
                wild(x, call);
            }
        }
        System.out.println(thrown + " calls threw, " + wrong + " wrong");
        System.exit(wrong == 0 ? 0 : 1);
    }

    private static int random(int below) {
        seed = seed * 6364136223846793005L + 1442695040888963407L;
        return (int) ((seed >>> 33) % below);
    }

    private static int number() {
        int[] edges = {Integer.MIN_VALUE, Integer.MAX_VALUE, -100, -99, 99, 100, -1, 32, 33, 24, 16, 8};
        int what = random(20);
        return what == 0 ? edges[random(edges.length)] : what == 1 ? random(1000) - 500
            : what < 8 ? 0 : what < 14 ? random(6) : random(24);
    }

    private static void wild(DropflagMill x, int count) {
        int k = count < 8 ? 0 : count < 120 && random(2) == 0 ? 1 : random(CALLS.length);
        int[] n = {number(), number(), number(), number()};
        int sort = random(17);
        String call = CALLS[k] + "(" + n[0] + ", " + n[1] + ", " + n[2] + ", " + n[3] + "), sort " + sort;
        boolean isCompared = random(8) == 0;
        long before = isCompared ? x.digest() : 0;
        try {
            call(x, k, sort, n);
        } catch (RuntimeException e) {
            thrown++;
            String name = e.getClass() == IndexOutOfBoundsException.class ? "I"
                : e.getClass() == IllegalArgumentException.class ? "A"
                : e.getClass() == IllegalStateException.class ? "S" : "?";
            if (!MAY[k].contains(name)) {
                wrong++;
                System.out.println(call + " threw " + e);
            }
            if (isCompared && x.digest() != before) {
                wrong++;
                System.out.println(call + " threw and changed something");
            }
        }
    }

    private static void call(DropflagMill x, int k, int sort, int[] n) {
        switch (CALLS[k]) {
            case "variable": x.variable(n[0]); break;
            case "add": x.add(random(20) == 0 ? n[0] : sort, n[1], n[2]); break;
            case "put": x.put(n[0], random(20) == 0 ? n[3] : sort, n[1], n[2]); break;
            case "cut": x.cut(); break;
            case "ofLine": x.ofLine(n[0], n[1]); break;
            case "state": x.state(n[0], n[1]); break;
            case "holds": x.holds(n[0], n[1]); break;
            case "isWanted": x.isWanted(n[0], n[1]); break;
            case "inTheWay": x.inTheWay(n[0], n[1]); break;
            case "ofLoan": x.ofLoan(n[0], n[1]); break;
            case "fault": x.fault(n[0], n[1]); break;
            case "ofVariable": x.ofVariable(n[0], n[1]); break;
            case "run": x.run(); break;
            case "ofRun": x.ofRun(n[0]); break;
            case "told": x.told(n[0], n[1]); break;
            case "many": x.many(n[0]); break;
            case "meanRead": x.meanRead(); break;
            case "faultsWithout": x.faultsWithout(n[0]); break;
            case "couldDrop": x.couldDrop(n[0], n[1]); break;
            case "leakedBy": x.leakedBy(n[0]); break;
            case "outcomeWith": x.outcomeWith(n[0], n[1]); break;
            default: x.digest(); break;
        }
    }
}
