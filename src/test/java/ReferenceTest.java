import java.util.ArrayList;
import java.util.List;
import java.util.Random;

/**
 * Long runs of calls, wrong ones among them, on the class and on a plain model of the document that
 * is written another way: sets as rows of booleans, kinds as classes over one another.
 */
public final class ReferenceTest {
    private static final int RUNS = 80;
    private static final int CALLS = 512;
    private static final int[] EXTREMES = {Integer.MIN_VALUE, Integer.MAX_VALUE, -1, 4096, 1 << 30};

    private static final Checks checks = new Checks();

    public static void main(String[] args) {
        for (int run = 0; run < RUNS; run++) {
            oneRun(run);
        }
        checks.end();
    }

    private static void oneRun(int run) {
        Random random = new Random(run);
        TwoColours real = new TwoColours();
        Model model = new Model();
        for (int call = 0; call < CALLS; call++) {
            int which = call == 0 ? 0 : pick(random);
            int p = argument(random, which, model);
            int q = argument(random, which, model);
            int r = random.nextInt(14);
            String name = "run " + run + ", call " + call + ": " + which + " of " + p + ", " + q + ", " + r;
            try {
                checks.due(name, real(real, which, p, q, r), model(model, which, p, q, r));
            } catch (RuntimeException thrown) {
                checks.report(name + " threw " + thrown);
            }
        }
    }

    /** things() and clear() come seldom, or nothing would ever grow. */
    private static int pick(Random random) {
        int which = random.nextInt(25);
        boolean sweeps = which == 0 || which == 20;
        return sweeps && random.nextInt(4) > 0 ? 3 + random.nextInt(2) : which;
    }

    private static int argument(Random random, int which, Model model) {
        if (random.nextInt(40) == 0) {
            return EXTREMES[random.nextInt(EXTREMES.length)];
        }
        switch (which) {
            case 8: case 9: case 10:
                return random.nextInt(random.nextBoolean() ? 10 : (1 << model.n) + 1);
            case 19:
                return random.nextInt(43) - 21;
            case 21:
                return random.nextInt((1 << model.steps.size()) + 1);
            case 7:
                return random.nextInt(random.nextBoolean() ? 3 : model.n + 1) - 1;
            case 22: case 23:
                return random.nextInt(6) - 1;
            case 0:
                return random.nextInt(15);
            default:
                return random.nextInt(model.n + 1);
        }
    }

    private static long real(TwoColours x, int which, int p, int q, int r) {
        switch (which) {
            case 0: return x.things(p);
            case 1: return x.swap(p, q);
            case 2: return x.second(p);
            case 3: return x.heap(r % 5, p, q);
            case 4: return x.heap(0, p * 37 & 4095, q);
            case 5: return x.has(r, p);
            case 6: return x.bits(p);
            case 7: return x.hold(p, q);
            case 8: return x.off(p, r);
            case 9: return x.worst(p);
            case 10: return x.squares(p);
            case 11: return x.times();
            case 12: return x.least();
            case 13: return x.first();
            case 14: return x.many();
            case 15: return x.fewest();
            case 16: return x.turns();
            case 17: return x.pairs();
            case 18: return x.come();
            case 19: return x.step(p, q);
            case 20: return x.clear();
            case 21: return x.stray(p);
            case 22: return x.straight(p);
            case 23: return x.count(p);
            default: return r < 7 ? x.drop() : x.trace();
        }
    }

    private static long model(Model x, int which, int p, int q, int r) {
        switch (which) {
            case 0: return x.things(p);
            case 1: return x.swap(p, q);
            case 2: return x.isThing(p) ? x.order.get(p) : -1;
            case 3: return x.heap(r % 5, p, q);
            case 4: return x.heap(0, p * 37 & 4095, q);
            case 5: return x.asked(r, p);
            case 6: return x.isHeap(p) ? x.bits(x.members(x.heaps.get(p))) : -1;
            case 7: return x.hold(p, q);
            case 8: return x.isColouring(p) && x.isHeap(r) ? x.off(p, x.heaps.get(r)) : -1;
            case 9: return x.isColouring(p) ? x.worst(p) : -1;
            case 10: return x.isColouring(p) ? x.squares(p) : -1;
            case 11: return x.times();
            case 12: return x.search()[0];
            case 13: return x.search()[1];
            case 14: return x.search()[2];
            case 15: return x.search()[3];
            case 16: return 0xAAA & (1 << x.n) - 1;
            case 17: return x.pairs();
            case 18: return x.come();
            case 19: return x.step(p, q);
            case 20: return x.clear();
            case 21: return p >= 0 && p < 1 << x.steps.size() ? x.stray(p) : -1;
            case 22: return x.straight(p);
            case 23: return x.count(p);
            default: return r < 7 ? x.drop() : x.trace;
        }
    }

    private static class Free {
        final int a;
        final int b;

        Free(int a, int b) {
            this.a = a;
            this.b = b;
        }

        boolean has(int thing, Model model) {
            model.told += 1;
            return (a & 1 << thing) != 0;
        }
    }

    private static class Span extends Free {
        Span(int a, int b) {
            super(a, b);
        }

        @Override
        boolean has(int thing, Model model) {
            model.told += 10;
            return a <= thing && thing <= b;
        }
    }

    private static final class Other extends Span {
        Other(int a, int b) {
            super(a, b);
        }

        @Override
        boolean has(int thing, Model model) {
            model.told += 100;
            return super.has(model.order.indexOf(thing), model);
        }
    }

    private static final class Each extends Free {
        Each(int a, int b) {
            super(a, b);
        }

        @Override
        boolean has(int thing, Model model) {
            model.told += 1000;
            for (int member = a; member < model.n; member += b) {
                if (member == thing) {
                    return true;
                }
            }
            return false;
        }
    }

    private static final class Model {
        int n;
        final List<Integer> order = new ArrayList<>();
        final List<Free> heaps = new ArrayList<>();
        final List<int[]> steps = new ArrayList<>();
        int[] held;
        long told = 0;
        long trace = 0;

        Model() {
            things(1);
        }

        int things(int many) {
            if (many < 1 || many > 12) {
                return -1;
            }
            int before = n;
            n = many;
            held = new int[n];
            order.clear();
            heaps.clear();
            for (int thing = 0; thing < n; thing++) {
                held[thing] = -1;
                order.add(thing);
            }
            return before;
        }

        boolean isThing(int thing) {
            return 0 <= thing && thing < n;
        }

        boolean isHeap(int heap) {
            return 0 <= heap && heap < heaps.size();
        }

        boolean isColouring(int colouring) {
            return 0 <= colouring && colouring < 1 << n;
        }

        int swap(int i, int j) {
            if (!isThing(i) || !isThing(j)) {
                return -1;
            }
            int moved = order.get(i);
            order.set(i, order.get(j));
            order.set(j, moved);
            return 1;
        }

        int heap(int kind, int a, int b) {
            boolean span = isThing(a) && isThing(b) && a <= b;
            Free heap = null;
            if (kind == 0 && isColouring(a)) {
                heap = new Free(a, b);
            } else if (kind == 1 && span) {
                heap = new Span(a, b);
            } else if (kind == 2 && span) {
                heap = new Other(a, b);
            } else if (kind == 3 && isThing(a) && b >= 1 && b <= 12) {
                heap = new Each(a, b);
            }
            if (heap == null) {
                return -1;
            }
            if (heaps.size() == 10) {
                return -3;
            }
            heaps.add(heap);
            return heaps.size() - 1;
        }

        int drop() {
            if (heaps.isEmpty()) {
                return -2;
            }
            heaps.remove(heaps.size() - 1);
            return heaps.size();
        }

        int asked(int heap, int thing) {
            if (!isHeap(heap) || !isThing(thing)) {
                return -1;
            }
            told = 0;
            boolean has = heaps.get(heap).has(thing, this);
            trace += told;
            return has ? 1 : 0;
        }

        boolean[] members(Free heap) {
            boolean[] members = new boolean[n];
            for (int thing = 0; thing < n; thing++) {
                members[thing] = heap.has(thing, this);
            }
            return members;
        }

        int bits(boolean[] members) {
            int bits = 0;
            for (int thing = n - 1; thing >= 0; thing--) {
                bits = 2 * bits + (members[thing] ? 1 : 0);
            }
            return bits;
        }

        int hold(int thing, int colour) {
            if (!isThing(thing) || colour < -1 || colour > 1) {
                return -2;
            }
            int before = held[thing];
            held[thing] = colour;
            return before;
        }

        int off(int colouring, Free heap) {
            int[] of = new int[2];
            for (int thing = 0; thing < n; thing++) {
                if (heap.has(thing, this)) {
                    of[colouring >> thing & 1]++;
                }
            }
            return Math.max(of[0], of[1]) - Math.min(of[0], of[1]);
        }

        int worst(int colouring) {
            return heaps.stream().mapToInt(heap -> off(colouring, heap)).max().orElse(0);
        }

        int squares(int colouring) {
            return heaps.stream().mapToInt(heap -> off(colouring, heap) * off(colouring, heap)).sum();
        }

        int times() {
            int most = 0;
            for (int thing = 0; thing < n; thing++) {
                int told = thing;
                most = Math.max(most, (int) heaps.stream().filter(heap -> heap.has(told, this)).count());
            }
            return most;
        }

        /** LEAST, FIRST, MANY, FEWEST SQUARES. */
        int[] search() {
            int[] found = {Integer.MAX_VALUE, -1, 0, Integer.MAX_VALUE};
            for (int colouring = (1 << n) - 1; colouring >= 0; colouring--) {
                if (!keeps(colouring)) {
                    continue;
                }
                int worst = worst(colouring);
                if (worst < found[0]) {
                    found[0] = worst;
                    found[2] = 0;
                }
                if (worst == found[0]) {
                    found[1] = colouring;
                    found[2]++;
                }
                found[3] = Math.min(found[3], squares(colouring));
            }
            return found;
        }

        boolean keeps(int colouring) {
            for (int thing = 0; thing < n; thing++) {
                if (held[thing] >= 0 && held[thing] != (colouring >> thing & 1)) {
                    return false;
                }
            }
            return true;
        }

        /** The least colouring that parts all pairs has 0 at the least number of all that hang together. */
        int pairs() {
            for (int colouring = 0; colouring < 1 << n; colouring++) {
                if (parts(colouring) && startsWithNought(colouring)) {
                    return colouring;
                }
            }
            throw new IllegalStateException("no colouring by pairs");
        }

        boolean parts(int colouring) {
            for (int place = 0; place + 1 < n; place += 2) {
                if ((colouring >> place & 1) == (colouring >> place + 1 & 1)
                        || (colouring >> order.get(place) & 1) == (colouring >> order.get(place + 1) & 1)) {
                    return false;
                }
            }
            return true;
        }

        boolean startsWithNought(int colouring) {
            int[] least = new int[n];
            for (int thing = 0; thing < n; thing++) {
                least[thing] = thing;
            }
            for (int round = 0; round < n; round++) {
                for (int place = 0; place + 1 < n; place += 2) {
                    join(least, place, place + 1);
                    join(least, order.get(place), order.get(place + 1));
                }
            }
            for (int thing = 0; thing < n; thing++) {
                if ((colouring >> least[thing] & 1) != 0) {
                    return false;
                }
            }
            return true;
        }

        static void join(int[] least, int one, int other) {
            least[one] = Math.min(least[one], least[other]);
            least[other] = least[one];
        }

        int come() {
            int[] s = new int[heaps.size()];
            int colouring = 0;
            for (int thing = 0; thing < n; thing++) {
                int sum = 0;
                for (int heap = 0; heap < s.length; heap++) {
                    sum += heaps.get(heap).has(thing, this) ? s[heap] : 0;
                }
                int colour = held[thing] >= 0 ? held[thing] : sum < 0 ? 1 : 0;
                colouring += colour << thing;
                for (int heap = 0; heap < s.length; heap++) {
                    s[heap] += heaps.get(heap).has(thing, this) ? 2 * colour - 1 : 0;
                }
            }
            return colouring;
        }

        int step(int x, int y) {
            if (x < -20 || x > 20 || y < -20 || y > 20) {
                return -1;
            }
            if (steps.size() == 10) {
                return -3;
            }
            steps.add(new int[] {x, y});
            return steps.size() - 1;
        }

        int clear() {
            int before = steps.size();
            steps.clear();
            return before;
        }

        /** Where one stands behind so many steps. */
        int size(int signs, int behind) {
            int[] at = new int[2];
            for (int step = 0; step < behind; step++) {
                for (int axis = 0; axis < 2; axis++) {
                    int way = steps.get(step)[axis];
                    at[axis] += (signs >> step & 1) == 1 ? -way : way;
                }
            }
            return Math.max(Math.abs(at[0]), Math.abs(at[1]));
        }

        int stray(int signs) {
            int stray = 0;
            for (int behind = 1; behind <= steps.size(); behind++) {
                stray = Math.max(stray, size(signs, behind));
            }
            return stray;
        }

        int straight(int what) {
            if (what == 2) {
                return nearest();
            }
            int least = Integer.MAX_VALUE;
            int itsSigns = -1;
            for (int signs = (1 << steps.size()) - 1; signs >= 0; signs--) {
                if (stray(signs) <= least) {
                    least = stray(signs);
                    itsSigns = signs;
                }
            }
            return what == 0 ? least : what == 1 ? itsSigns : -1;
        }

        int nearest() {
            int signs = 0;
            for (int step = 0; step < steps.size(); step++) {
                int other = signs + (1 << step);
                signs = size(other, step + 1) < size(signs, step + 1) ? other : signs;
            }
            return signs;
        }

        int count(int what) {
            switch (what) {
                case 0: return n;
                case 1: return heaps.size();
                case 2: return steps.size();
                case 3: return (int) java.util.Arrays.stream(held).filter(colour -> colour >= 0).count();
                default: return -1;
            }
        }
    }
}
