import java.util.ArrayDeque;
import java.util.ArrayList;
import java.util.Deque;
import java.util.HashSet;
import java.util.List;
import java.util.Set;

/**
 * The document once more, slowly and by other means than the program: each question follows the ways
 * one by one, and a RUN has objects for its BOXES and NODES. The tests compare the program with it.
 */
final class Model {
    static final int NUMBER = 0, BOX = 1, PAIR = 2, SHARED = 3, ALONE = 4, COUNTED = 5;

    final List<Integer> kinds;
    final List<int[]> lines;
    private int wrongLine = -1;
    private int[] partner;
    private int[] elses;
    private List<int[]> faults;
    private Set<Integer> live;
    private Set<Integer> holding;

    Model(List<Integer> kinds, List<int[]> lines) {
        this.kinds = new ArrayList<>(kinds);
        this.lines = new ArrayList<>(lines);
        match();
    }

    int size() {
        return lines.size();
    }

    int sort(int line) {
        return lines.get(line)[0];
    }

    int a(int line) {
        return lines.get(line)[1];
    }

    int b(int line) {
        return lines.get(line)[2];
    }

    int kind(int place) {
        if (place < 0 || place / 3 >= kinds.size()) {
            return -1;
        }
        int kind = kinds.get(place / 3);
        return place % 3 == 0 ? kind : kind == PAIR ? BOX : -1;
    }

    List<Integer> leaves(int place) {
        if (place < 0) {
            return List.of();
        }
        return kind(place) == PAIR ? List.of(place + 1, place + 2) : List.of(place);
    }

    static boolean owned(int kind) {
        return kind == BOX || kind == PAIR || kind == COUNTED;
    }

    static boolean borrow(int kind) {
        return kind == SHARED || kind == ALONE;
    }

    /** Whether a LINE may be told so. */
    boolean fits(int sort, int a, int b) {
        int ka = kind(a);
        int kb = kind(b);
        boolean small = b >= -99 && b <= 99;
        boolean none = b == 0;
        if (sort == 0) return ka >= 0 && !borrow(ka) && small;
        if (sort == 1) return ka >= 0 && ka == kb && ka != NUMBER && ka != SHARED;
        if (sort == 2) return ka >= 0 && ka == kb && ka != BOX && ka != PAIR && ka != ALONE;
        if (sort == 3) return ka == SHARED && (kb == NUMBER || kb == BOX || kb == PAIR);
        if (sort == 4) return ka == ALONE && (kb == NUMBER || kb == BOX || kb == PAIR);
        if (sort == 5) return ka >= 0 && none;
        if (sort == 6) return ka >= 0 && ka != PAIR && ka != SHARED && small;
        if (sort == 7) return owned(ka) && none;
        if (sort == 8) return ka == NUMBER && none;
        if (sort == 9 || sort == 11 || sort == 15) return a == 0 && none;
        if (sort == 10) return a >= 1 && a <= 4 && none;
        if (sort == 12) return ka == COUNTED && kb == COUNTED;
        if (sort == 13 || sort == 14) return ka == COUNTED && none;
        if (sort == 16) return ka == NUMBER && small;
        return false;
    }

    private void match() {
        partner = new int[size()];
        elses = new int[size()];
        java.util.Arrays.fill(partner, -1);
        java.util.Arrays.fill(elses, -1);
        Deque<Integer> open = new ArrayDeque<>();
        for (int line = 0; line < size(); line++) {
            int sort = sort(line);
            if (sort == 8 || sort == 10) {
                open.push(line);
            } else if (sort == 9) {
                if (open.isEmpty() || sort(open.peek()) != 8 || elses[open.peek()] >= 0) {
                    wrongLine = line;
                    return;
                }
                elses[open.peek()] = line;
                partner[line] = open.peek();
            } else if (sort == 11) {
                if (open.isEmpty()) {
                    wrongLine = line;
                    return;
                }
                partner[line] = open.pop();
                partner[partner[line]] = line;
            }
        }
        if (!open.isEmpty()) {
            wrongLine = open.peek();
        }
    }

    boolean whole() {
        return wrongLine < 0;
    }

    /** The NEXT LINES, in their order. */
    List<Integer> next(int line) {
        if (!whole() || line >= size()) {
            return List.of();
        }
        switch (sort(line)) {
            case 8: return List.of(line + 1, elses[line] >= 0 ? elses[line] + 1 : partner[line]);
            case 9: return List.of(partner[partner[line]]);
            case 11:
                return sort(partner[line]) == 10 ? List.of(partner[line] + 1, line + 1) : List.of(line + 1);
            case 15: return List.of();
            default: return List.of(line + 1);
        }
    }

    int nextOr(int line, int k) {
        List<Integer> all = next(line);
        return k < all.size() ? all.get(k) : -1;
    }

    Set<Integer> live() {
        if (live != null) {
            return live;
        }
        Set<Integer> seen = new HashSet<>();
        live = seen;
        if (!whole()) {
            return seen;
        }
        Deque<Integer> todo = new ArrayDeque<>();
        todo.add(0);
        seen.add(0);
        while (!todo.isEmpty()) {
            for (int to : next(todo.poll())) {
                if (seen.add(to)) {
                    todo.add(to);
                }
            }
        }
        return seen;
    }

    boolean dead(int line) {
        return whole() && !live().contains(line);
    }

    List<Integer> uses(int line) {
        switch (sort(line)) {
            case 1: case 2: case 3: case 4: return List.of(b(line));
            case 5: case 6: case 7: case 8: case 13: case 14: case 16: return List.of(a(line));
            case 12: return List.of(a(line), b(line));
            default: return List.of();
        }
    }

    int gives(int line) {
        return sort(line) <= 4 ? a(line) : -1;
    }

    /** Whether the LEAF has (wanted true) or has not (false) ahead of the LINE on some way. */
    boolean can(int line, int leaf, boolean wanted) {
        Set<Integer> seen = new HashSet<>();
        Deque<Integer> todo = new ArrayDeque<>();
        if (!whole()) {
            return false;
        }
        todo.add(0);
        seen.add(0);
        while (!todo.isEmpty()) {
            int at = todo.poll();
            int here = at / 2;
            boolean has = at % 2 == 1;
            if (here == line && has == wanted) {
                return true;
            }
            if (here == size()) {
                continue;
            }
            if (sort(here) == 1 && leaves(b(here)).contains(leaf)) has = false;
            if (sort(here) == 7 && leaves(a(here)).contains(leaf)) has = false;
            if (leaves(gives(here)).contains(leaf)) has = true;
            for (int to : next(here)) {
                int then = 2 * to + (has ? 1 : 0);
                if (seen.add(then)) {
                    todo.add(then);
                }
            }
        }
        return false;
    }

    int state(int line, int place) {
        if (!whole() || !live().contains(line)) {
            return 0;
        }
        boolean all = true;
        boolean none = false;
        for (int leaf : leaves(place)) {
            all &= !can(line, leaf, false);
            none |= !can(line, leaf, true);
        }
        return all ? 1 : none ? 2 : 3;
    }

    List<Integer> loans() {
        List<Integer> found = new ArrayList<>();
        for (int line = 0; line < size(); line++) {
            if (sort(line) == 3 || sort(line) == 4) {
                found.add(line);
            }
        }
        return found;
    }

    /** All (LINE, BORROW, LOAN) as LINE * 1000 + BORROW * 100 + LOAN, each followed by itself. */
    Set<Integer> holding() {
        if (holding != null) {
            return holding;
        }
        Set<Integer> seen = new HashSet<>();
        holding = seen;
        Deque<Integer> todo = new ArrayDeque<>();
        List<Integer> loans = loans();
        Set<Integer> live = live();
        for (int loan = 0; loan < loans.size(); loan++) {
            int line = loans.get(loan);
            if (live.contains(line)) {
                for (int to : next(line)) {
                    int fact = to * 1000 + a(line) / 3 * 100 + loan;
                    if (seen.add(fact)) {
                        todo.add(fact);
                    }
                }
            }
        }
        while (!todo.isEmpty()) {
            int fact = todo.poll();
            int line = fact / 1000;
            int holder = fact / 100 % 10;
            int loan = fact % 100;
            if (line == size()) {
                continue;
            }
            Set<Integer> holders = new HashSet<>();
            if (gives(line) != 3 * holder) {
                holders.add(holder);
            }
            if ((sort(line) == 1 || sort(line) == 2) && b(line) == 3 * holder) {
                holders.add(a(line) / 3);
            }
            for (int to : next(line)) {
                for (int each : holders) {
                    int then = to * 1000 + each * 100 + loan;
                    if (seen.add(then)) {
                        todo.add(then);
                    }
                }
            }
        }
        return seen;
    }

    Set<Integer> held(int line, int variable) {
        Set<Integer> set = new HashSet<>();
        for (int fact : holding()) {
            if (fact / 1000 == line && fact / 100 % 10 == variable) {
                set.add(fact % 100);
            }
        }
        return set;
    }

    int holds(int line, int variable) {
        int sum = 0;
        for (int loan : held(line, variable)) {
            sum += 1 << loan;
        }
        return sum;
    }

    boolean wanted(int line, int variable) {
        if (!whole()) {
            return false;
        }
        Set<Integer> seen = new HashSet<>();
        Deque<Integer> todo = new ArrayDeque<>();
        todo.add(line);
        while (!todo.isEmpty()) {
            int at = todo.poll();
            if (at >= size() || !seen.add(at)) {
                continue;
            }
            if (uses(at).contains(3 * variable)) {
                return true;
            }
            if (gives(at) != 3 * variable) {
                todo.addAll(next(at));
            }
        }
        return false;
    }

    static boolean meets(int p, int q) {
        return p == q || (p / 3 == q / 3 && (p % 3 == 0 || q % 3 == 0));
    }

    int inTheWay(int line, int place) {
        int best = -1;
        for (int v = 0; v < kinds.size(); v++) {
            if (borrow(kinds.get(v)) && wanted(line, v)) {
                for (int loan : held(line, v)) {
                    if (meets(b(loans().get(loan)), place) && (best < 0 || loan < best)) {
                        best = loan;
                    }
                }
            }
        }
        return best;
    }

    int lastUse(int loan) {
        int last = -1;
        for (int fact : holding()) {
            int line = fact / 1000;
            if (fact % 100 == loan && line < size() && uses(line).contains(fact / 100 % 10 * 3)) {
                last = Math.max(last, line);
            }
        }
        return last;
    }

    /** What a LINE TAKES, in its order: each {PLACE, 1 to WRITE or 0 to READ}. */
    private List<int[]> takes(int line) {
        int a = a(line);
        int b = b(line);
        boolean plain = !borrow(kind(a));
        List<int[]> taken = new ArrayList<>();
        int sort = sort(line);
        if (sort == 2 && kind(b) == NUMBER) {
            taken.add(new int[] {b, 0});
            taken.add(new int[] {a, 1});
        }
        if (sort == 3) taken.add(new int[] {b, 0});
        if (sort == 8 || sort == 5 && plain) taken.add(new int[] {a, 0});
        if (sort == 4) taken.add(new int[] {b, 1});
        if (sort == 7 || sort == 0 || sort == 16 || sort == 6 && plain) taken.add(new int[] {a, 1});
        if (sort == 1 && plain) {
            taken.add(new int[] {a, 1});
            taken.add(new int[] {b, 1});
        }
        return taken;
    }

    List<int[]> faults() {
        if (faults == null) {
            faults = new ArrayList<>();
            if (!whole()) {
                faults.add(new int[] {5, wrongLine, -1, -1, -1});
            } else {
                Set<Integer> live = live();
                for (int line = 0; line < size(); line++) {
                    int[] fault = live.contains(line) ? faultOf(line) : null;
                    if (fault != null) {
                        faults.add(fault);
                    }
                }
            }
        }
        return faults;
    }

    private int[] faultOf(int line) {
        for (int place : uses(line)) {
            for (int leaf : leaves(place)) {
                if (can(line, leaf, false)) {
                    return new int[] {can(line, leaf, true) ? 2 : 1, line, leaf, -1, -1};
                }
            }
        }
        for (int[] taken : takes(line)) {
            for (int loan = 0; loan < loans().size(); loan++) {
                int of = loans().get(loan);
                if (meets(b(of), taken[0]) && (taken[1] == 1 || sort(of) == 4) && blocks(line, loan)) {
                    return new int[] {taken[1] == 1 ? 3 : 4, line, taken[0], loan, lastUse(loan)};
                }
            }
        }
        return null;
    }

    private boolean blocks(int line, int loan) {
        for (int v = 0; v < kinds.size(); v++) {
            if (borrow(kinds.get(v)) && held(line, v).contains(loan) && gives(line) != 3 * v) {
                for (int to : next(line)) {
                    if (wanted(to, v)) {
                        return true;
                    }
                }
            }
        }
        return false;
    }

    boolean flag(int leaf) {
        if (!whole() || !owned(kind(leaf))) {
            return false;
        }
        for (int line = 0; line <= size(); line++) {
            boolean counts = line == size();
            if (!counts) {
                int sort = sort(line);
                counts = sort == 15 || sort == 13 || sort <= 2 && leaves(a(line)).contains(leaf);
            }
            if (counts && can(line, leaf, true) && can(line, leaf, false)) {
                return true;
            }
        }
        return false;
    }

    int ofVariable(int v, int what) {
        int sum = 0;
        if (what == 0) {
            return kinds.get(v);
        }
        if (what == 1) {
            List<Integer> leaves = leaves(3 * v);
            for (int k = 0; k < leaves.size(); k++) {
                sum += flag(leaves.get(k)) ? 1 << k : 0;
            }
            return sum;
        }
        for (int line = 0; line < size(); line++) {
            boolean one = false;
            if (what == 2) {
                for (int place : uses(line)) {
                    one |= place / 3 == v;
                }
            } else {
                one = gives(line) >= 0 && gives(line) / 3 == v;
            }
            sum += one ? 1 : 0;
        }
        return sum;
    }

    int many(int what) {
        int sum = 0;
        switch (what) {
            case 0: return kinds.size();
            case 1: return size();
            case 2: return faults().size();
            case 3: return loans().size();
            case 4:
                for (int v = 0; v < kinds.size(); v++) {
                    sum += Integer.bitCount(ofVariable(v, 1));
                }
                return sum;
            case 5:
                for (int line = 0; line < size(); line++) {
                    sum += dead(line) ? 1 : 0;
                }
                return sum;
            default:
                for (int line = 0; line < size(); line++) {
                    int here = 0;
                    for (int v = 0; v < kinds.size(); v++) {
                        here += borrow(kinds.get(v)) && wanted(line, v) ? 1 : 0;
                    }
                    sum = Math.max(sum, here);
                }
                return sum;
        }
    }

    Model without(int line) {
        List<int[]> then = new ArrayList<>(lines);
        then.remove(line);
        return new Model(kinds, then);
    }

    Model with(int line, int sort, int a, int b) {
        List<int[]> then = new ArrayList<>(lines);
        then.set(line, new int[] {sort, a, b});
        return new Model(kinds, then);
    }

    int couldDrop(int line, int place) {
        List<int[]> then = new ArrayList<>(lines);
        then.add(line, new int[] {7, place, 0});
        Model model = new Model(kinds, then);
        if (!model.whole()) {
            return 0;
        }
        for (int[] fault : model.faults()) {
            if (fault[1] == line) {
                return fault[0];
            }
        }
        return 0;
    }

    int leakedBy(int line) {
        Model then = with(line, 15, 0, 0);
        return then.faults().isEmpty() ? new Go(then).leaked() : -1;
    }

    int outcomeWith(int line, int number) {
        Model then = with(line, sort(line), a(line), number);
        return then.faults().isEmpty() ? new Go(then).outcome : -1;
    }

    private static final class Abort extends RuntimeException {
        private static final long serialVersionUID = 1;
    }

    private static final class Thing {
        int number;
        int count = 1;
        Thing link;
        boolean held;
        int loan = -1;

        Thing(int number) {
            this.number = number;
        }
    }

    /** A RUN with objects for what is had. */
    static final class Go {
        final Model m;
        final List<int[]> told = new ArrayList<>();
        private final Thing[] had = new Thing[24];
        int outcome, steps, boxes, nodes, dropped, zero, here;
        int panicAt = -1;

        Go(Model m) {
            this.m = m;
            try {
                if (body(0, m.size())) {
                    here = m.size();
                    unwind();
                    outcome = panicAt < 0 ? 0 : 1;
                } else {
                    outcome = 3;
                }
            } catch (Abort abort) {
                outcome = 2;
            }
        }

        int leaked() {
            return boxes + nodes - dropped - zero;
        }

        int fact(int what) {
            int[] all = {outcome, steps, told.size(), boxes, nodes, dropped, zero, leaked(), panicAt};
            return all[what];
        }

        /** Does LINES from one on, up to another one; false if there were too many STEPS. */
        private boolean body(int from, int to) {
            int line = from;
            while (line < to && panicAt < 0) {
                if (!begin(line)) {
                    return false;
                }
                int sort = m.sort(line);
                if (sort == 8) {
                    int end = m.partner[line];
                    int orElse = m.elses[line];
                    boolean yes = had[m.a(line)].number > 0;
                    int start = yes ? line + 1 : orElse >= 0 ? orElse + 1 : end;
                    int stop = yes && orElse >= 0 ? orElse : end;
                    if (!body(start, stop)) return false;
                    if (panicAt < 0 && yes && orElse >= 0 && !begin(orElse)) return false;
                    if (panicAt < 0 && !begin(end)) return false;
                    line = end + 1;
                } else if (sort == 10) {
                    int end = m.partner[line];
                    for (int round = 0; round < m.a(line) && panicAt < 0; round++) {
                        if (!body(line + 1, end)) return false;
                        if (panicAt < 0 && !begin(end)) return false;
                    }
                    line = end + 1;
                } else {
                    line++;
                }
            }
            return true;
        }

        private boolean begin(int line) {
            if (steps == 500) {
                return false;
            }
            steps++;
            here = line;
            act(m.sort(line), m.a(line), m.b(line));
            return true;
        }

        private void panic() {
            if (panicAt >= 0) {
                throw new Abort();
            }
            panicAt = here;
        }

        private void end(int kind, Thing thing) {
            if (thing == null || !owned(kind)) {
                return;
            }
            if (kind == COUNTED) {
                thing.count--;
                if (thing.count == 0) {
                    told.add(new int[] {2, thing.number, here});
                    zero++;
                    end(COUNTED, thing.link);
                }
            } else {
                told.add(new int[] {1, thing.number, here});
                dropped++;
                if (thing.number < 0) {
                    panic();
                }
            }
        }

        private Thing[] take(int place) {
            List<Integer> leaves = m.leaves(place);
            Thing[] taken = new Thing[leaves.size()];
            for (int k = 0; k < taken.length; k++) {
                taken[k] = had[leaves.get(k)];
                had[leaves.get(k)] = null;
            }
            return taken;
        }

        private void give(int place, Thing... things) {
            Thing[] before = take(place);
            for (int k = 0; k < things.length; k++) {
                had[m.leaves(place).get(k)] = things[k];
            }
            for (Thing thing : before) {
                end(m.kind(place), thing);
            }
        }

        private void act(int sort, int a, int b) {
            int kind = m.kind(a);
            switch (sort) {
                case 0:
                    boxes += kind == PAIR ? 2 : kind == BOX ? 1 : 0;
                    nodes += kind == COUNTED ? 1 : 0;
                    if (kind == PAIR) {
                        give(a, new Thing(b), new Thing(b + 1));
                    } else {
                        give(a, new Thing(b));
                    }
                    break;
                case 1:
                    give(a, take(b));
                    break;
                case 2:
                    if (kind == COUNTED) {
                        had[b].count++;
                        give(a, had[b]);
                    } else {
                        Thing same = new Thing(had[b].number);
                        same.loan = had[b].loan;
                        give(a, same);
                    }
                    break;
                case 3:
                case 4:
                    Thing borrow = new Thing(0);
                    borrow.loan = b;
                    give(a, borrow);
                    break;
                case 5:
                    if (kind == COUNTED && had[a].held) {
                        panic();
                    } else {
                        int sum = 0;
                        for (int leaf : m.leaves(borrow(kind) ? had[a].loan : a)) {
                            sum += had[leaf].number;
                        }
                        told.add(new int[] {0, sum, here});
                    }
                    break;
                case 6:
                    if (kind == COUNTED && had[a].held) {
                        panic();
                    } else {
                        for (int leaf : m.leaves(kind == ALONE ? had[a].loan : a)) {
                            had[leaf].number = b;
                        }
                    }
                    break;
                case 7:
                    for (Thing thing : take(a)) {
                        end(kind, thing);
                    }
                    break;
                case 12:
                    had[b].count++;
                    Thing before = had[a].link;
                    had[a].link = had[b];
                    end(COUNTED, before);
                    break;
                case 13:
                    if (had[a].held) {
                        panic();
                    } else {
                        had[a].held = true;
                    }
                    break;
                case 14:
                    had[a].held = false;
                    break;
                case 15:
                    panic();
                    break;
                case 16:
                    had[a].number += b;
                    break;
                default:
                    break;
            }
        }

        private void unwind() {
            here = m.size();
            for (int v = m.kinds.size() - 1; v >= 0; v--) {
                if (owned(m.kinds.get(v))) {
                    for (Thing thing : take(3 * v)) {
                        end(m.kinds.get(v), thing);
                    }
                }
            }
        }
    }
}
