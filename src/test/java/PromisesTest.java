import java.util.function.ToIntFunction;

/** Each promise by ordinary inputs, the edges that the document names, and wrong inputs. */
public final class PromisesTest {
    private static final int BAD = -1, STATE = -2, FULL = -3;
    private static final int LOW = Integer.MIN_VALUE, HIGH = Integer.MAX_VALUE;
    private static final int FREE = 0, SPAN = 1, OTHER = 2, EACH = 3;

    private static final Checks checks = new Checks();

    public static void main(String[] args) {
        newObject();
        things();
        swapAndSecond();
        heapFree();
        heapSpanAndOther();
        heapEach();
        heapKindsAndFull();
        drop();
        has();
        bits();
        hold();
        off();
        worstAndSquares();
        times();
        leastFirstManyFewest();
        leastFirstManyFewestHeld();
        turns();
        pairs();
        come();
        comeHeld();
        step();
        clear();
        stray();
        straight();
        count();
        trace();
        checks.end();
    }

    private static void due(String call, long got, long want) {
        checks.due(call, got, want);
    }

    private static TwoColours withThings(int n) {
        TwoColours x = new TwoColours();
        due("things(" + n + ") of a new object", x.things(n), 1);
        return x;
    }

    private static TwoColours withFreeHeaps(int n, int... heaps) {
        TwoColours x = withThings(n);
        for (int i = 0; i < heaps.length; i++) {
            due("heap(FREE, " + heaps[i] + ", 0)", x.heap(FREE, heaps[i], 0), i);
        }
        return x;
    }

    private static TwoColours withSteps(int... xy) {
        TwoColours x = new TwoColours();
        for (int i = 0; i + 1 < xy.length; i += 2) {
            due("step(" + xy[i] + ", " + xy[i + 1] + ")", x.step(xy[i], xy[i + 1]), i / 2);
        }
        return x;
    }

    /** A short look: an object answers 512 calls, and RefusedTest looks at all that can be seen. */
    private static String seen(TwoColours x) {
        StringBuilder text = new StringBuilder();
        for (int what = 0; what < 4; what++) {
            text.append(" count ").append(x.count(what));
        }
        text.append(" second ").append(x.second(0)).append(" bits ").append(x.bits(0));
        text.append(" first ").append(x.first()).append(" come ").append(x.come());
        text.append(" trace ").append(x.trace()).append(" stray ").append(x.stray(0));
        return text.toString();
    }

    private static void refused(TwoColours x, String call, ToIntFunction<TwoColours> made, int want) {
        String before = seen(x);
        due(call, made.applyAsInt(x), want);
        checks.due("what is seen behind the refused " + call, seen(x), before);
    }

    private static TwoColours busy() {
        TwoColours x = withThings(5);
        x.swap(0, 3);
        x.heap(OTHER, 1, 3);
        x.heap(FREE, 21, 0);
        x.hold(2, 1);
        x.has(0, 0);
        x.step(4, -7);
        x.step(1, 1);
        return x;
    }

    // Promise 1
    private static void newObject() {
        TwoColours x = new TwoColours();
        due("new: count(0)", x.count(0), 1);
        due("new: count(1)", x.count(1), 0);
        due("new: count(2)", x.count(2), 0);
        due("new: count(3)", x.count(3), 0);
        due("new: second(0)", x.second(0), 0);
        due("new: second(1)", x.second(1), BAD);
        due("new: trace()", x.trace(), 0);
        due("new: heap(FREE, 2, 0)", x.heap(FREE, 2, 0), BAD);
        due("new: heap(FREE, 1, 0)", x.heap(FREE, 1, 0), 0);
        due("another new: count(1)", new TwoColours().count(1), 0);
    }

    // Promise 2
    private static void things() {
        TwoColours x = busy();
        for (int n : new int[] {0, 13, -1, LOW, HIGH}) {
            refused(x, "things(" + n + ")", o -> o.things(n), BAD);
        }
        due("things(5) again", x.things(5), 5);
        due("behind things: no heaps", x.count(1), 0);
        due("behind things: drop()", x.drop(), STATE);
        due("behind things: none held", x.count(3), 0);
        due("behind things: hold(2, -1)", x.hold(2, -1), -1);
        due("behind things: many()", x.many(), 32);
        due("behind things: steps stay", x.count(2), 2);
        due("behind things: the trace stays", x.trace(), 110);
        for (int i = 0; i < 5; i++) {
            due("behind things: second(" + i + ")", x.second(i), i);
        }
        due("things(12)", x.things(12), 5);
        due("second(11)", x.second(11), 11);
        due("things(1)", x.things(1), 12);
        due("things(12)", x.things(12), 1);
    }

    // Promises 3 and 4
    private static void swapAndSecond() {
        TwoColours x = withThings(4);
        due("swap(0, 2)", x.swap(0, 2), 1);
        secondOrder(x, 2, 1, 0, 3);
        due("swap(3, 0): places, not things", x.swap(3, 0), 1);
        secondOrder(x, 3, 1, 0, 2);
        due("swap(2, 2)", x.swap(2, 2), 1);
        secondOrder(x, 3, 1, 0, 2);
        for (int wrong : new int[] {-1, 4, LOW, HIGH}) {
            refused(x, "swap(" + wrong + ", 0)", o -> o.swap(wrong, 0), BAD);
            refused(x, "swap(0, " + wrong + ")", o -> o.swap(0, wrong), BAD);
            refused(x, "second(" + wrong + ")", o -> o.second(wrong), BAD);
        }
    }

    private static void secondOrder(TwoColours x, int... order) {
        for (int i = 0; i < order.length; i++) {
            due("second(" + i + ")", x.second(i), order[i]);
        }
    }

    // Promise 5, with 8
    private static void heapFree() {
        TwoColours x = withThings(12);
        due("heap(FREE, 4095, MIN)", x.heap(FREE, 4095, LOW), 0);
        due("heap(FREE, 0, MAX)", x.heap(FREE, 0, HIGH), 1);
        due("bits of the whole", x.bits(0), 4095);
        due("bits of none", x.bits(1), 0);
        for (int a : new int[] {4096, -1, LOW, HIGH}) {
            refused(x, "heap(FREE, " + a + ", 0)", o -> o.heap(FREE, a, 0), BAD);
        }
    }

    private static void heapSpanAndOther() {
        for (int kind : new int[] {SPAN, OTHER}) {
            TwoColours x = withThings(6);
            x.swap(0, 5);
            x.swap(1, 2);
            due("heap(kind, 0, 5)", x.heap(kind, 0, 5), 0);
            due("heap(kind, 5, 5)", x.heap(kind, 5, 5), 1);
            due("heap(kind, 0, 1)", x.heap(kind, 0, 1), 2);
            due("bits(0)", x.bits(0), 63);
            due("bits(1)", x.bits(1), kind == SPAN ? 32 : 1);
            due("bits(2)", x.bits(2), kind == SPAN ? 3 : 36);
            refused(x, "heap(kind, 3, 2)", o -> o.heap(kind, 3, 2), BAD);
            for (int wrong : new int[] {-1, 6, LOW, HIGH}) {
                refused(x, "heap(kind, 0, " + wrong + ")", o -> o.heap(kind, 0, wrong), BAD);
                refused(x, "heap(kind, " + wrong + ", 5)", o -> o.heap(kind, wrong, 5), BAD);
                refused(x, "heap(kind, " + wrong + ", " + wrong + ")", o -> o.heap(kind, wrong, wrong), BAD);
            }
        }
    }

    private static void heapEach() {
        TwoColours x = withThings(7);
        due("heap(EACH, 0, 1)", x.heap(EACH, 0, 1), 0);
        due("heap(EACH, 1, 3)", x.heap(EACH, 1, 3), 1);
        due("heap(EACH, 6, 12)", x.heap(EACH, 6, 12), 2);
        due("bits(0)", x.bits(0), 127);
        due("bits(1): 1 and 4", x.bits(1), 18);
        due("bits(2)", x.bits(2), 64);
        due("heap(EACH, 4, 2)", x.heap(EACH, 4, 2), 3);
        due("bits(3): 4 and 6, none ahead", x.bits(3), 80);
        for (int a : new int[] {-1, 7, LOW, HIGH}) {
            refused(x, "heap(EACH, " + a + ", 1)", o -> o.heap(EACH, a, 1), BAD);
        }
        for (int b : new int[] {-1, 0, 13, LOW, HIGH}) {
            refused(x, "heap(EACH, 0, " + b + ")", o -> o.heap(EACH, 0, b), BAD);
        }
    }

    private static void heapKindsAndFull() {
        TwoColours x = withThings(3);
        for (int kind : new int[] {-1, 4, LOW, HIGH}) {
            refused(x, "heap(" + kind + ", 0, 1)", o -> o.heap(kind, 0, 1), BAD);
        }
        for (int i = 0; i < 10; i++) {
            due("heap " + i, x.heap(i % 4, 1, 1), i);
        }
        refused(x, "heap of kind 4 when full", o -> o.heap(4, 0, 0), BAD);
        refused(x, "heap(SPAN, 2, 1) when full", o -> o.heap(SPAN, 2, 1), BAD);
        for (int kind = 0; kind < 4; kind++) {
            int told = kind;
            refused(x, "heap(" + kind + ", 1, 1) when full", o -> o.heap(told, 1, 1), FULL);
        }
        due("drop()", x.drop(), 9);
        due("heap(FREE, 5, 0) in its stead", x.heap(FREE, 5, 0), 9);
        due("bits(9)", x.bits(9), 5);
    }

    // Promise 6
    private static void drop() {
        TwoColours x = withFreeHeaps(3, 1, 2, 4);
        due("drop()", x.drop(), 2);
        due("bits(2) of the dropped one", x.bits(2), BAD);
        due("bits(1)", x.bits(1), 2);
        due("drop()", x.drop(), 1);
        due("drop()", x.drop(), 0);
        due("worst(0) without heaps", x.worst(0), 0);
        refused(x, "drop() of none", TwoColours::drop, STATE);
        refused(new TwoColours(), "drop() of a new object", TwoColours::drop, STATE);
    }

    // Promise 7
    private static void has() {
        TwoColours x = withThings(5);
        x.swap(0, 4);
        x.heap(FREE, 9, 0);
        x.heap(SPAN, 1, 3);
        x.heap(OTHER, 0, 1);
        x.heap(EACH, 1, 2);
        String[] members = {"10010", "01110", "01001", "01010"};
        for (int heap = 0; heap < 4; heap++) {
            for (int thing = 0; thing < 5; thing++) {
                due("has(" + heap + ", " + thing + ")", x.has(heap, thing), members[heap].charAt(thing) - '0');
            }
        }
        for (int wrong : new int[] {-1, 5, LOW, HIGH}) {
            refused(x, "has(0, " + wrong + ")", o -> o.has(0, wrong), BAD);
            refused(x, "has(" + wrong + ", 0)", o -> o.has(wrong, 0), BAD);
        }
        refused(x, "has(4, 0)", o -> o.has(4, 0), BAD);
    }

    // Promise 8
    private static void bits() {
        TwoColours x = withThings(5);
        x.heap(OTHER, 0, 1);
        x.heap(SPAN, 0, 1);
        due("bits(0)", x.bits(0), 3);
        x.swap(1, 3);
        due("bits(0) follows the second order", x.bits(0), 9);
        due("bits(1) does not", x.bits(1), 3);
        x.swap(3, 4);
        x.swap(0, 4);
        due("bits(0) of 1 3 2 4 0 in a second order turned round", x.bits(0), 10);
        due("trace() is has()'s alone", x.trace(), 0);
        for (int heap : new int[] {-1, 2, 10, LOW, HIGH}) {
            refused(x, "bits(" + heap + ")", o -> o.bits(heap), BAD);
        }
    }

    // Promise 9
    private static void hold() {
        TwoColours x = withThings(3);
        due("hold(1, 1)", x.hold(1, 1), -1);
        due("many() of those with 1 held", x.many(), 4);
        due("first()", x.first(), 2);
        due("hold(1, 0)", x.hold(1, 0), 1);
        due("first()", x.first(), 0);
        due("many()", x.many(), 4);
        due("hold(1, 0)", x.hold(1, 0), 0);
        due("hold(2, 1)", x.hold(2, 1), -1);
        due("hold(1, -1)", x.hold(1, -1), 0);
        due("hold(1, -1)", x.hold(1, -1), -1);
        due("many()", x.many(), 4);
        due("first()", x.first(), 4);
        for (int thing : new int[] {-1, 3, LOW, HIGH}) {
            refused(x, "hold(" + thing + ", 0)", o -> o.hold(thing, 0), -2);
        }
        for (int colour : new int[] {-2, 2, LOW, HIGH}) {
            refused(x, "hold(0, " + colour + ")", o -> o.hold(0, colour), -2);
        }
    }

    // Promise 10
    private static void off() {
        TwoColours x = withFreeHeaps(5, 7, 24, 0);
        due("off(0, 0)", x.off(0, 0), 3);
        due("off(1, 0)", x.off(1, 0), 1);
        due("off(6, 0)", x.off(6, 0), 1);
        due("off(31, 0)", x.off(31, 0), 3);
        due("off(8, 1)", x.off(8, 1), 0);
        due("off(31, 1)", x.off(31, 1), 2);
        due("off(21, 2) of an empty heap", x.off(21, 2), 0);
        for (int wrong : new int[] {-1, 32, LOW, HIGH}) {
            refused(x, "off(" + wrong + ", 0)", o -> o.off(wrong, 0), BAD);
            refused(x, "off(0, " + wrong + ")", o -> o.off(0, wrong), BAD);
        }
        refused(x, "off(0, 3)", o -> o.off(0, 3), BAD);
    }

    // Promises 11 and 12
    private static void worstAndSquares() {
        TwoColours x = withFreeHeaps(5, 7, 24, 31);
        due("worst(0)", x.worst(0), 5);
        due("squares(0)", x.squares(0), 9 + 4 + 25);
        due("worst(1)", x.worst(1), 3);
        due("squares(1)", x.squares(1), 1 + 4 + 9);
        due("worst(24)", x.worst(24), 3);
        due("squares(24)", x.squares(24), 9 + 4 + 1);
        due("worst(9)", x.worst(9), 1);
        due("squares(9)", x.squares(9), 1 + 0 + 1);
        x.hold(0, 1);
        due("worst(0) whatever is held", x.worst(0), 5);
        for (int wrong : new int[] {-1, 32, LOW, HIGH}) {
            refused(x, "worst(" + wrong + ")", o -> o.worst(wrong), BAD);
            refused(x, "squares(" + wrong + ")", o -> o.squares(wrong), BAD);
        }
        TwoColours without = withThings(2);
        due("worst(3) without heaps", without.worst(3), 0);
        due("squares(3) without heaps", without.squares(3), 0);
        due("worst(4) without heaps", without.worst(4), BAD);
        due("squares(4) without heaps", without.squares(4), BAD);
    }

    // Promise 13
    private static void times() {
        due("times() without heaps", withThings(4).times(), 0);
        due("times() of an empty heap", withFreeHeaps(4, 0).times(), 0);
        due("times() of heaps apart", withFreeHeaps(4, 3, 12).times(), 1);
        due("times() of like heaps", withFreeHeaps(4, 8, 8, 8).times(), 3);
        due("times() of the last thing", withFreeHeaps(4, 9, 10, 12).times(), 3);
        due("times() of the first thing", withFreeHeaps(4, 9, 3, 5, 2).times(), 3);
    }

    // Promises 14 to 17
    private static void leastFirstManyFewest() {
        searches(withThings(3), 0, 0, 8, 0);
        searches(withFreeHeaps(3, 3, 6), 0, 2, 2, 0);
        searches(withFreeHeaps(3, 3, 6, 5), 2, 0, 8, 4);
        searches(withFreeHeaps(4, 15), 0, 3, 6, 0);
        searches(withFreeHeaps(3, 7), 1, 1, 6, 1);
        searches(withFreeHeaps(12, 4095), 0, 63, 924, 0);
    }

    private static void leastFirstManyFewestHeld() {
        TwoColours x = withFreeHeaps(3, 3, 6);
        x.hold(0, 1);
        searches(x, 0, 5, 1, 0);
        x.hold(1, 1);
        searches(x, 2, 3, 2, 4);
        x.hold(2, 1);
        searches(x, 2, 7, 1, 8);
        x.hold(1, 0);
        searches(x, 0, 5, 1, 0);
        TwoColours all = withFreeHeaps(12, 4095);
        for (int thing = 0; thing < 12; thing++) {
            all.hold(thing, 1);
        }
        searches(all, 12, 4095, 1, 144);
        all.hold(0, -1);
        searches(all, 10, 4094, 1, 100);
    }

    private static void searches(TwoColours x, int least, int first, int many, int fewest) {
        due("least()", x.least(), least);
        due("first()", x.first(), first);
        due("many()", x.many(), many);
        due("fewest()", x.fewest(), fewest);
    }

    // Promise 18
    private static void turns() {
        int[] byTurns = {0, 2, 2, 10, 10, 42, 42, 170, 170, 682, 682, 2730};
        for (int n = 1; n <= 12; n++) {
            TwoColours x = withThings(n);
            due("turns() of " + n, x.turns(), byTurns[n - 1]);
            x.hold(0, 1);
            due("turns() of " + n + " whatever is held", x.turns(), byTurns[n - 1]);
        }
    }

    // Promise 19
    private static void pairs() {
        int[] byPairs = {0, 2, 2, 10, 10, 42, 42, 170, 170, 682, 682, 2730};
        for (int n = 1; n <= 12; n++) {
            due("pairs() of like orders of " + n, withThings(n).pairs(), byPairs[n - 1]);
        }
        TwoColours ring = withThings(5);
        ring.swap(1, 2);
        due("pairs() of a ring 0 1 3 2, and 4", ring.pairs(), 6);
        ring.hold(0, 1);
        ring.heap(FREE, 31, 0);
        due("pairs() whatever is held", ring.pairs(), 6);
        TwoColours row = withThings(5);
        row.swap(1, 4);
        due("pairs() of a row 1 0 4, and of 2 3", row.pairs(), 26);
        TwoColours end = withThings(3);
        end.swap(0, 2);
        due("pairs() of a row 0 1 2", end.pairs(), 2);
        due("pairs() asked again", end.pairs(), 2);
        TwoColours late = withThings(3);
        late.swap(1, 2);
        due("pairs() of a row 1 0 2", late.pairs(), 6);
    }

    // Promise 20
    private static void come() {
        due("come() without heaps", withThings(4).come(), 0);
        due("come() of one whole heap", withFreeHeaps(5, 31).come(), 10);
        due("come(): a sum of -2", withFreeHeaps(3, 5, 6).come(), 4);
        due("come(): the sum, not how many heaps", withFreeHeaps(5, 19, 20, 24).come(), 18);
        due("come(): a sum of 0", withFreeHeaps(4, 11, 12).come(), 10);
        due("come(): a heap twice", withFreeHeaps(2, 3, 3).come(), 2);
    }

    private static void comeHeld() {
        TwoColours x = withFreeHeaps(4, 15);
        x.hold(0, 1);
        due("come() behind a held 1", x.come(), 1 + 8);
        x.hold(1, 1);
        due("come() behind two held", x.come(), 3);
        x.hold(0, -1);
        x.hold(1, -1);
        x.hold(3, 0);
        due("come(): what is held later has not come", x.come(), 2);
        x.hold(3, 1);
        due("come(): what is held later keeps its colour", x.come(), 10);
        x.things(2);
        x.heap(FREE, 3, 0);
        x.hold(1, 0);
        due("come(): 0 does not look at 1", x.come(), 0);
    }

    // Promise 21
    private static void step() {
        TwoColours x = withSteps(20, -20, -20, 20, 0, 0);
        for (int wrong : new int[] {-21, 21, LOW, HIGH}) {
            refused(x, "step(" + wrong + ", 0)", o -> o.step(wrong, 0), BAD);
            refused(x, "step(0, " + wrong + ")", o -> o.step(0, wrong), BAD);
        }
        for (int i = 3; i < 10; i++) {
            due("step " + i, x.step(i, -i), i);
        }
        refused(x, "step(1, 1) when full", o -> o.step(1, 1), FULL);
        refused(x, "step(21, 1) when full", o -> o.step(21, 1), BAD);
        due("count(2)", x.count(2), 10);
    }

    // Promise 22
    private static void clear() {
        TwoColours x = busy();
        due("clear()", x.clear(), 2);
        due("clear()", x.clear(), 0);
        due("behind clear: count(2)", x.count(2), 0);
        due("behind clear: count(1)", x.count(1), 2);
        due("behind clear: stray(1)", x.stray(1), BAD);
        due("behind clear: step(3, -9)", x.step(3, -9), 0);
        due("behind clear: stray(0)", x.stray(0), 9);
    }

    // Promise 23
    private static void stray() {
        due("stray(0) without steps", new TwoColours().stray(0), 0);
        TwoColours x = withSteps(3, 4, 6, 1, -9, -5);
        due("stray(0): the greatest stood ahead", x.stray(0), 9);
        due("stray(7)", x.stray(7), 9);
        due("stray(2)", x.stray(2), 12);
        due("stray(4)", x.stray(4), 18);
        due("stray(1)", x.stray(1), 8);
        due("stray(3)", x.stray(3), 18);
        due("stray of y below 0", withSteps(1, -8).stray(0), 8);
        due("stray of x below 0", withSteps(1, 0).stray(1), 1);
        due("stray of ten", withSteps(20, 0, 20, 0, 20, 0, 20, 0, 20, 0, 20, 0, 20, 0, 20, 0, 20, 0, 20, 0).stray(1023),
                200);
        for (int signs : new int[] {-1, 8, LOW, HIGH}) {
            refused(x, "stray(" + signs + ")", o -> o.stray(signs), BAD);
        }
    }

    // Promise 24
    private static void straight() {
        straights(new TwoColours(), 0, 0, 0);
        straights(withSteps(5, -2), 5, 0, 0);
        straights(withSteps(5, 5, 5, 5), 5, 1, 2);
        straights(withSteps(-5, 5, 5, -5), 5, 0, 0);
        straights(withSteps(0, 0, 0, 0), 0, 0, 0);
        straights(withSteps(10, 0, 16, 0, 15, 0), 10, 2, 2);
        straights(withSteps(2, 0, 0, 3, 5, 3), 3, 3, 4);
        TwoColours x = withSteps(1, 2);
        for (int what : new int[] {-1, 3, LOW, HIGH}) {
            refused(x, "straight(" + what + ")", o -> o.straight(what), BAD);
        }
    }

    private static void straights(TwoColours x, int straight, int itsSigns, int nearest) {
        due("straight(0)", x.straight(0), straight);
        due("straight(1)", x.straight(1), itsSigns);
        due("straight(2)", x.straight(2), nearest);
    }

    // Promise 25
    private static void count() {
        TwoColours x = busy();
        due("count(0)", x.count(0), 5);
        due("count(1)", x.count(1), 2);
        due("count(2)", x.count(2), 2);
        due("count(3)", x.count(3), 1);
        x.hold(0, 0);
        due("count(3), held to 0 too", x.count(3), 2);
        x.hold(2, 0);
        due("count(3), held to another", x.count(3), 2);
        x.hold(2, -1);
        due("count(3), held to none", x.count(3), 1);
        for (int what : new int[] {-1, 4, LOW, HIGH}) {
            refused(x, "count(" + what + ")", o -> o.count(what), BAD);
        }
    }

    // Promise 26
    private static void trace() {
        TwoColours x = withThings(3);
        long[] added = {1, 10, 110, 1000};
        long due = 0;
        for (int kind = 0; kind < 4; kind++) {
            x.heap(kind, 1, 1);
        }
        for (int kind = 0; kind < 4; kind++) {
            for (int thing = 0; thing < 3; thing++) {
                x.has(kind, thing);
                due += added[kind];
                due("trace() behind has(" + kind + ", " + thing + ")", x.trace(), due);
            }
        }
        x.bits(2);
        x.off(1, 2);
        x.least();
        x.times();
        x.come();
        x.has(4, 0);
        x.has(0, 3);
        due("trace() behind all but has()", x.trace(), due);
        x.drop();
        x.clear();
        x.things(2);
        due("trace() stays", x.trace(), due);
    }
}
