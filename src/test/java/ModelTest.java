import java.util.ArrayList;
import java.util.List;

/**
 * Random programs (from a fixed seed), each asked for everything: the program has to answer what the
 * slow Model answers. With a number as argument: that many programs.
 */
public final class ModelTest {
    private static long seed = 20261119;
    private static int wrong = 0;
    private static int current = 0;
    private static Model.Go latest = null;
    private static int runs = 0;
    private static final int[] outcomes = new int[4];
    private static final int[] faultsSeen = new int[6];

    public static void main(String[] args) {
        int programs = args.length > 0 ? Integer.parseInt(args[0]) : 250;
        if (args.length > 1) {
            seed = Long.parseLong(args[1]);
        }
        for (current = 0; current < programs && wrong < 20; current++) {
            oneProgram();
        }
        System.out.println(current + " programs; outcomes " + java.util.Arrays.toString(outcomes)
            + ", faults " + java.util.Arrays.toString(faultsSeen));
        for (int outcome = 0; outcome <= 3; outcome++) {
            due("some outcome " + outcome, outcomes[outcome] > 0 ? 1 : 0, 1);
        }
        for (int number = 1; number <= 5; number++) {
            due("some fault " + number, faultsSeen[number] > 0 ? 1 : 0, 1);
        }
        System.exit(wrong == 0 ? 0 : 1);
    }

    private static int random(int below) {
        seed = seed * 6364136223846793005L + 1442695040888963407L;
        return (int) ((seed >>> 33) % below);
    }

    private static void due(String call, long got, long want) {
        if (got != want) {
            wrong++;
            System.out.println("program " + current + ": " + call + " answered " + got + ", due is " + want);
        }
    }

    private static void oneProgram() {
        List<Integer> kinds = kinds();
        List<int[]> lines = new ArrayList<>();
        int size = random(4) == 0 ? 32 : random(33);
        boolean mayFault = random(3) == 0;
        boolean hasManyLoops = random(6) == 0;
        if (random(4) > 0) {
            for (int v = 0; v < kinds.size() && size >= 8; v++) {
                if (!Model.borrow(kinds.get(v))) {
                    lines.add(new int[] {0, 3 * v, random(12) == 0 ? small() : random(20)});
                }
            }
        }
        for (int deep = hasManyLoops ? random(6) : 0; deep > 0; deep--) {
            lines.add(lines.size() / 2, new int[] {10, 3 + random(2), 0});
            lines.add(lines.size() / 2 + 1, new int[] {11, 0, 0});
        }
        for (int attempt = 0; attempt < 300 && lines.size() < size; attempt++) {
            List<int[]> then = insertion(kinds, lines, hasManyLoops);
            if (then.size() <= 32 && loans(then) <= 16 && isWelcome(told(kinds, then), mayFault)) {
                lines = then;
            }
        }
        if (random(8) == 0 && !lines.isEmpty()) {
            lines.remove(random(lines.size()));
        }
        if (random(12) == 0 && !lines.isEmpty()) {
            lines.set(random(lines.size()), line(kinds));
        }
        if (loans(lines) > 16) {
            return;
        }
        latest = null;
        runs = 0;
        DropflagMill mill = told(kinds, lines);
        compare(mill, new Model(kinds, lines));
        for (int change = random(4); change > 0; change--) {
            change(mill, kinds, lines);
            compare(mill, new Model(kinds, lines));
        }
    }

    /** One change of the program that the mill has, so that nothing old is left behind in it. */
    private static void change(DropflagMill mill, List<Integer> kinds, List<int[]> lines) {
        int what = random(5);
        int[] line = line(kinds);
        if (what == 0 && kinds.size() < 8) {
            kinds.add(random(6));
            mill.variable(kinds.get(kinds.size() - 1));
        } else if (what == 1 && !lines.isEmpty()) {
            due("cut()", mill.cut(), lines.remove(lines.size() - 1)[0]);
        } else if (what == 2 && lines.size() < 32 && loans(lines) < 16) {
            lines.add(line);
            due("add()", mill.add(line[0], line[1], line[2]), lines.size() - 1);
        } else if (!lines.isEmpty() && loans(lines) < 16) {
            int at = random(lines.size());
            int before = lines.set(at, line)[0];
            due("put()", mill.put(at, line[0], line[1], line[2]), before);
        }
    }

    /** The rare FAULTS are let in more often, so that there are some of each. */
    private static boolean isWelcome(DropflagMill mill, boolean mayFault) {
        int faults = mill.many(2);
        if (faults == 0 || !mayFault) {
            return faults == 0;
        }
        int number = mill.fault(random(faults), 0);
        return faults <= 6 && number >= 2 && random(3) > 0 || random(20) == 0;
    }

    private static int loans(List<int[]> lines) {
        int sum = 0;
        for (int[] line : lines) {
            sum += line[0] == 3 || line[0] == 4 ? 1 : 0;
        }
        return sum;
    }

    private static List<Integer> kinds() {
        List<Integer> kinds = new ArrayList<>();
        int count = 1 + random(8);
        int[] favoured = {random(6), random(6), 3 + random(2), random(3), random(6)};
        for (int k = 0; k < count; k++) {
            kinds.add(random(3) == 0 ? random(6) : favoured[random(5)]);
        }
        return kinds;
    }

    private static int place(List<Integer> kinds) {
        int v = random(kinds.size());
        return 3 * v + (kinds.get(v) == Model.PAIR ? random(3) : 0);
    }

    private static int small() {
        return random(3) == 0 ? random(199) - 99 : random(8) - 3;
    }

    /** A LINE that is valid and opens or ends nothing (a READ if nothing else was found). */
    private static int[] line(List<Integer> kinds) {
        int[] sorts = {0, 0, 0, 1, 1, 2, 2, 3, 3, 4, 4, 5, 5, 6, 7, 12, 12, 13, 14, 15, 16};
        Model model = new Model(kinds, List.of());
        for (int attempt = 0; attempt < 60; attempt++) {
            int sort = sorts[random(sorts.length)];
            if (sort == 15) {
                if (random(6) == 0) {
                    return new int[] {15, 0, 0};
                }
                continue;
            }
            int a = place(kinds);
            boolean hasPlace = sort >= 1 && sort <= 4 || sort == 12;
            boolean hasNumber = sort == 0 || sort == 6 || sort == 16;
            int b = hasPlace ? place(kinds) : hasNumber ? small() : 0;
            if (model.fits(sort, a, b)) {
                return new int[] {sort, a, b};
            }
        }
        return new int[] {5, 0, 0};
    }

    private static List<int[]> insertion(List<Integer> kinds, List<int[]> lines, boolean hasManyLoops) {
        List<int[]> then = new ArrayList<>(lines);
        int at = random(3) == 0 ? random(lines.size() + 1) : lines.size() - random(Math.min(3, lines.size() + 1));
        int number = 3 * kinds.indexOf(Model.NUMBER);
        int what = hasManyLoops ? random(4) : random(12);
        int behind = at + random(Math.min(random(4) == 0 ? 32 : 6, lines.size() - at) + 1);
        if (what == 0) {
            then.add(behind, new int[] {11, 0, 0});
            then.add(at, new int[] {10, 1 + random(4), 0});
        } else if (what <= 2 && number >= 0) {
            then.add(behind, new int[] {11, 0, 0});
            if (random(2) == 0) {
                then.add(at + random(behind - at + 1), new int[] {9, 0, 0});
            }
            then.add(at, new int[] {8, number, 0});
        } else {
            then.add(at, line(kinds));
        }
        return then;
    }

    private static DropflagMill told(List<Integer> kinds, List<int[]> lines) {
        DropflagMill mill = new DropflagMill();
        for (int kind : kinds) {
            mill.variable(kind);
        }
        for (int[] line : lines) {
            mill.add(line[0], line[1], line[2]);
        }
        return mill;
    }

    private static void compare(DropflagMill x, Model m) {
        int before = wrong;
        for (int what = 0; what <= 6; what++) {
            due("many(" + what + ")", x.many(what), m.many(what));
        }
        for (int v = 0; v < m.kinds.size(); v++) {
            for (int what = 0; what <= 3; what++) {
                due("ofVariable(" + v + ", " + what + ")", x.ofVariable(v, what), m.ofVariable(v, what));
            }
        }
        for (int line = 0; line <= m.size(); line++) {
            compareAt(x, m, line);
        }
        for (int loan = 0; loan < m.loans().size(); loan++) {
            int line = m.loans().get(loan);
            due("ofLoan(" + loan + ", 0)", x.ofLoan(loan, 0), line);
            due("ofLoan(" + loan + ", 1)", x.ofLoan(loan, 1), m.b(line));
            due("ofLoan(" + loan + ", 2)", x.ofLoan(loan, 2), m.sort(line) == 4 ? 1 : 0);
            due("ofLoan(" + loan + ", 3)", x.ofLoan(loan, 3), m.lastUse(loan));
        }
        for (int k = 0; k < m.faults().size(); k++) {
            faultsSeen[m.faults().get(k)[0]]++;
            for (int what = 0; what <= 4; what++) {
                due("fault(" + k + ", " + what + ")", x.fault(k, what), m.faults().get(k)[what]);
            }
        }
        due("digest()", x.digest(), digest(m));
        compareRun(x, m);
        if (wrong > before) {
            System.out.println("  kinds " + m.kinds);
            for (int[] line : m.lines) {
                System.out.println("  " + java.util.Arrays.toString(line));
            }
        }
    }

    private static void compareAt(DropflagMill x, Model m, int line) {
        boolean isEnd = line == m.size();
        for (int v = 0; v < m.kinds.size(); v++) {
            boolean borrow = Model.borrow(m.kinds.get(v));
            for (int place = 3 * v; place < 3 * v + 3; place++) {
                if (m.kind(place) >= 0) {
                    String at = "(" + line + ", " + place + ")";
                    due("state" + at, x.state(line, place), m.state(line, place));
                    due("inTheWay" + at, x.inTheWay(line, place), m.inTheWay(line, place));
                    if (Model.owned(m.kind(place))) {
                        due("couldDrop" + at, x.couldDrop(line, place), m.couldDrop(line, place));
                    }
                }
            }
            if (borrow) {
                due("holds(" + line + ", " + v + ")", x.holds(line, v), m.holds(line, v));
                due("isWanted(" + line + ", " + v + ")", x.isWanted(line, v) ? 1 : 0, m.wanted(line, v) ? 1 : 0);
            }
        }
        if (isEnd) {
            return;
        }
        for (int what = 0; what <= 2; what++) {
            due("ofLine(" + line + ", " + what + ")", x.ofLine(line, what), m.lines.get(line)[what]);
        }
        due("ofLine(" + line + ", 3)", x.ofLine(line, 3), m.nextOr(line, 0));
        due("ofLine(" + line + ", 4)", x.ofLine(line, 4), m.nextOr(line, 1));
        due("ofLine(" + line + ", 5)", x.ofLine(line, 5), m.dead(line) ? 1 : 0);
        due("faultsWithout(" + line + ")", x.faultsWithout(line), m.without(line).faults().size());
        due("leakedBy(" + line + ")", x.leakedBy(line), m.leakedBy(line));
        if (m.sort(line) == 0 || m.sort(line) == 6) {
            int number = small();
            due("outcomeWith(" + line + ", " + number + ")", x.outcomeWith(line, number), m.outcomeWith(line, number));
        }
    }

    private static void compareRun(DropflagMill x, Model m) {
        if (!m.faults().isEmpty()) {
            boolean threw = false;
            try {
                x.run();
            } catch (IllegalStateException e) {
                threw = true;
            }
            due("run() throws", threw ? 1 : 0, 1);
            return;
        }
        Model.Go go = new Model.Go(m);
        latest = go;
        runs++;
        outcomes[go.outcome]++;
        due("run()", x.run(), go.outcome);
        for (int what = 0; what <= 8; what++) {
            due("ofRun(" + what + ")", x.ofRun(what), go.fact(what));
        }
        due("ofRun(9)", x.ofRun(9), runs);
        long sum = 0;
        long reads = 0;
        for (int k = 0; k < Math.min(60, go.told.size()); k++) {
            int[] told = go.told.get(k);
            for (int what = 0; what <= 2; what++) {
                due("told(" + k + ", " + what + ")", x.told(k, what), told[what]);
            }
            if (told[0] == 0) {
                sum += told[1];
                reads++;
            }
        }
        boolean threw = false;
        try {
            x.told(Math.min(60, go.told.size()), 0);
        } catch (IndexOutOfBoundsException e) {
            threw = true;
        }
        due("told() behind the last one throws", threw ? 1 : 0, 1);
        double mean = reads == 0 ? 0 : (double) sum / reads;
        due("meanRead() as bits", Double.doubleToLongBits(x.meanRead()), Double.doubleToLongBits(mean));
        due("digest() behind a run", x.digest(), digest(m));
    }

    private static long digest(Model m) {
        Model.Go go = latest;
        List<Long> all = new ArrayList<>();
        for (int what = 0; what <= 6; what++) all.add((long) m.many(what));
        for (int v = 0; v < m.kinds.size(); v++) {
            for (int what = 0; what <= 3; what++) all.add((long) m.ofVariable(v, what));
        }
        for (int line = 0; line < m.size(); line++) {
            all.add((long) m.nextOr(line, 0));
            all.add((long) m.nextOr(line, 1));
            all.add(m.dead(line) ? 1L : 0L);
            for (int v = 0; v < m.kinds.size(); v++) {
                all.add((long) m.state(line, 3 * v));
                all.add((long) m.inTheWay(line, 3 * v));
                if (Model.borrow(m.kinds.get(v))) {
                    all.add((long) m.holds(line, v));
                    all.add(m.wanted(line, v) ? 1L : 0L);
                }
            }
            all.add((long) m.without(line).faults().size());
        }
        for (int loan = 0; loan < m.loans().size(); loan++) {
            int line = m.loans().get(loan);
            all.add((long) line);
            all.add((long) m.b(line));
            all.add(m.sort(line) == 4 ? 1L : 0L);
            all.add((long) m.lastUse(loan));
        }
        for (int[] fault : m.faults()) {
            for (int fact : fault) all.add((long) fact);
        }
        for (int what = 0; what <= 8; what++) all.add(go == null ? 0L : (long) go.fact(what));
        all.add((long) runs);
        for (int k = 0; go != null && k < Math.min(60, go.told.size()); k++) {
            for (int fact : go.told.get(k)) all.add((long) fact);
        }
        if (m.size() > 0) all.add((long) m.leakedBy(m.size() - 1));
        long d = 58135;
        for (long v : all) {
            d = d * 31 + v;
        }
        return d;
    }
}
