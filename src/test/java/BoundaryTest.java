/**
 * The boundary cases of each promise that are taken: the least and the greatest number, the empty and the
 * full state, and the first number beyond on either side. What calls answer behind a refused one is
 * looked at in RefusedTest.
 */
public final class BoundaryTest {
    private static final int BAD = -1, STATE = -2, FULL = -3, BAD_HOLD = -2;
    private static final int LOW = Integer.MIN_VALUE, HIGH = Integer.MAX_VALUE;
    private static final int FREE = 0, SPAN = 1, OTHER = 2, EACH = 3;
    private static final int MOST_THINGS = 12, MOST_HEAPS = 10, MOST_STEPS = 10;
    private static final int[] ALTERNATING = {0, 2, 2, 10, 10, 42, 42, 170, 170, 682, 682, 2730};

    private static final Checks checks = new Checks();

    public static void main(String[] args) {
        newObject();
        thingsFromEachToEach();
        thingsForgetsAll();
        thingsOfTheSameNumberForgetsToo();
        swapFirstAndLastPlace();
        swapOfOnePlace();
        swapBackAgain();
        swapReachesOtherAlone();
        secondFirstAndLastPlace();
        heapFreeLeastAndGreatest();
        heapFreeWithAnyB();
        heapSpansLeastAndGreatest();
        heapEachLeastAndGreatest();
        heapTenthAndEleventh();
        heapFullIsToldBehindBad();
        dropFromFullToNone();
        dropLeavesTheOthers();
        dropThenTellAgain();
        hasAtTheEdgesOfSpans();
        hasAtTheEdgesOfEach();
        hasOfFreeAtItsBits();
        hasOfFirstAndLastHeap();
        bitsOfNoneAndAll();
        holdEachColourBehindEach();
        holdFirstAndLastThing();
        holdRefusedKeepsWhatWasHeld();
        offOfLeastAndGreatestColouring();
        offOfEmptyOneAndAll();
        worstWithoutHeapsAndOfAll();
        squaresWithoutHeapsAndOfAll();
        timesNoneAndTen();
        searchesWithoutHeaps();
        searchesWithAllHeld();
        searchesWithAllButOneHeld();
        searchesOfEmptyAndWholeHeaps();
        searchesAtTheirEdges();
        turnsOfEachNumber();
        pairsOfLikeOrders();
        pairsOfOddNumbers();
        pairsOfLongestRingAndRow();
        comeAtSumsAroundNought();
        comeEmptyAndFull();
        stepLeastAndGreatest();
        stepTenthAndEleventh();
        clearNoneOneAndTen();
        strayOfLeastAndGreatestSigns();
        strayGreatestOfAll();
        strayStoodAhead();
        straightWithoutSteps();
        straightOfLikeOnes();
        straightOfTen();
        countFromNoneToFull();
        traceFromNought();
        traceOfRefusedCalls();
        checks.end();
    }

    private static void due(String call, long got, long want) {
        checks.due(call, got, want);
    }

    private static TwoColours withThings(int n) {
        TwoColours x = new TwoColours();
        due("things(" + n + ") of a new object", x.things(n), 1);
        return x;
    }

    private static TwoColours withHeaps(int n, int... free) {
        TwoColours x = withThings(n);
        for (int i = 0; i < free.length; i++) {
            due("heap(FREE, " + free[i] + ", 0)", x.heap(FREE, free[i], 0), i);
        }
        return x;
    }

    /** Ten heaps that have all of twelve things. */
    private static TwoColours withAllInTen() {
        TwoColours x = withThings(MOST_THINGS);
        for (int heap = 0; heap < MOST_HEAPS; heap++) {
            due("heap " + heap, heap % 2 == 0 ? x.heap(FREE, 4095, 0) : x.heap(EACH, 0, 1), heap);
        }
        return x;
    }

    private static TwoColours withLikeSteps(int many, int x, int y) {
        TwoColours made = new TwoColours();
        for (int step = 0; step < many; step++) {
            due("step " + step, made.step(x, y), step);
        }
        return made;
    }

    private static void holdAll(TwoColours x, int colour) {
        for (int thing = 0; thing < x.count(0); thing++) {
            x.hold(thing, colour);
        }
    }

    private static void secondOrder(String when, TwoColours x, int... order) {
        for (int i = 0; i < order.length; i++) {
            due(when + ": second(" + i + ")", x.second(i), order[i]);
        }
        due(when + ": second(" + order.length + ")", x.second(order.length), BAD);
        due(when + ": second(-1)", x.second(-1), BAD);
    }

    private static void searches(String when, TwoColours x, int least, int first, int many, int fewest) {
        due(when + ": least()", x.least(), least);
        due(when + ": first()", x.first(), first);
        due(when + ": many()", x.many(), many);
        due(when + ": fewest()", x.fewest(), fewest);
    }

    private static void straights(String when, TwoColours x, int straight, int itsSigns, int nearest) {
        due(when + ": straight(0)", x.straight(0), straight);
        due(when + ": straight(1)", x.straight(1), itsSigns);
        due(when + ": straight(2)", x.straight(2), nearest);
        due(when + ": stray(its signs)", x.stray(itsSigns), straight);
    }

    // ---- promise 1

    private static void newObject() {
        TwoColours x = new TwoColours();
        for (int what = 0; what < 4; what++) {
            due("new: count(" + what + ")", x.count(what), what == 0 ? 1 : 0);
        }
        secondOrder("new", x, 0);
        searches("new", x, 0, 0, 2, 0);
        straights("new", x, 0, 0, 0);
        due("new: times()", x.times(), 0);
        due("new: turns()", x.turns(), 0);
        due("new: pairs()", x.pairs(), 0);
        due("new: come()", x.come(), 0);
        due("new: trace()", x.trace(), 0);
        due("new: hold(0, -1): none is held", x.hold(0, -1), -1);
        due("new: bits(0): no heap", x.bits(0), BAD);
        due("new: drop(): no heap", x.drop(), STATE);
        due("new: clear(): no steps", x.clear(), 0);
        due("new: the first heap", x.heap(SPAN, 0, 0), 0);
        due("new: the first step", x.step(0, 0), 0);
    }

    // ---- promise 2

    private static void thingsFromEachToEach() {
        for (int from = 1; from <= MOST_THINGS; from++) {
            for (int to = 1; to <= MOST_THINGS; to++) {
                TwoColours x = withThings(from);
                String call = "things(" + to + ") behind " + from;
                due(call, x.things(to), from);
                due(call + ": count(0)", x.count(0), to);
                due(call + ": the last place", x.second(to - 1), to - 1);
                due(call + ": the first place beyond", x.second(to), BAD);
                due(call + ": the greatest colouring", x.worst((1 << to) - 1), 0);
                due(call + ": the first one beyond", x.worst(1 << to), BAD);
                due(call + ": things(0)", x.things(0), BAD);
                due(call + ": things(13)", x.things(13), BAD);
                due(call + ": refused, there are still", x.things(1), to);
            }
        }
    }

    private static void thingsForgetsAll() {
        TwoColours x = withAllInTen();
        holdAll(x, 1);
        x.swap(0, 11);
        x.step(3, 4);
        x.has(9, 11);
        due("things(1) behind 12", x.things(1), 12);
        due("things(12) behind 1", x.things(12), 1);
        due("none is held", x.count(3), 0);
        due("hold(11, -1)", x.hold(11, -1), -1);
        due("no heaps", x.count(1), 0);
        due("bits(0)", x.bits(0), BAD);
        due("drop()", x.drop(), STATE);
        secondOrder("things", x, 0, 1, 2, 3, 4, 5, 6, 7, 8, 9, 10, 11);
        due("heap(OTHER, 0, 0)", x.heap(OTHER, 0, 0), 0);
        due("bits(0) in the order of numbers", x.bits(0), 1);
        due("the step stays", x.stray(0), 4);
        due("the trace stays", x.trace(), 1000);
    }

    private static void thingsOfTheSameNumberForgetsToo() {
        TwoColours x = withHeaps(2, 3);
        x.hold(1, 1);
        x.swap(0, 1);
        due("things(2) behind 2", x.things(2), 2);
        secondOrder("things(2) behind 2", x, 0, 1);
        due("things(2) behind 2: count(1)", x.count(1), 0);
        due("things(2) behind 2: count(3)", x.count(3), 0);
        searches("things(2) behind 2", x, 0, 0, 4, 0);
    }

    // ---- promise 3

    private static void swapFirstAndLastPlace() {
        for (int n = 2; n <= MOST_THINGS; n++) {
            TwoColours x = withThings(n);
            due("swap(0, " + (n - 1) + ")", x.swap(0, n - 1), 1);
            due("the last at the first place", x.second(0), n - 1);
            due("the first at the last place", x.second(n - 1), 0);
            due("swap(0, " + n + ")", x.swap(0, n), BAD);
            due("swap(" + n + ", 0)", x.swap(n, 0), BAD);
            due("swap(-1, 0)", x.swap(-1, 0), BAD);
            due("swap(0, -1)", x.swap(0, -1), BAD);
            due("refused: the first place", x.second(0), n - 1);
            due("refused: the last place", x.second(n - 1), 0);
        }
    }

    private static void swapOfOnePlace() {
        TwoColours one = new TwoColours();
        due("swap(0, 0) of one", one.swap(0, 0), 1);
        due("swap(0, 1) of one", one.swap(0, 1), BAD);
        due("swap(1, 1) of one", one.swap(1, 1), BAD);
        secondOrder("swap of one", one, 0);
        TwoColours three = withThings(3);
        three.swap(0, 2);
        due("swap(2, 2)", three.swap(2, 2), 1);
        secondOrder("swap(2, 2)", three, 2, 1, 0);
    }

    private static void swapBackAgain() {
        TwoColours x = withThings(3);
        x.heap(OTHER, 0, 0);
        x.swap(0, 1);
        x.swap(1, 2);
        secondOrder("two swaps", x, 1, 2, 0);
        due("bits(0) behind two swaps", x.bits(0), 2);
        x.swap(2, 1);
        x.swap(1, 0);
        secondOrder("swapped back", x, 0, 1, 2);
        due("bits(0) swapped back", x.bits(0), 1);
    }

    private static void swapReachesOtherAlone() {
        TwoColours x = withThings(4);
        for (int kind = 0; kind < 4; kind++) {
            x.heap(kind, 1, 1);
        }
        x.hold(1, 1);
        x.swap(1, 3);
        due("bits of FREE behind swap", x.bits(FREE), 1);
        due("bits of SPAN behind swap", x.bits(SPAN), 2);
        due("bits of OTHER behind swap", x.bits(OTHER), 8);
        due("bits of EACH behind swap", x.bits(EACH), 14);
        due("thing 1 is still held", x.hold(1, 1), 1);
        due("thing 3 is not", x.hold(3, -1), -1);
    }

    // ---- promise 4

    private static void secondFirstAndLastPlace() {
        for (int n = 1; n <= MOST_THINGS; n++) {
            TwoColours x = withThings(n);
            due("second(0) of " + n, x.second(0), 0);
            due("second(" + (n - 1) + ") of " + n, x.second(n - 1), n - 1);
            due("second(-1) of " + n, x.second(-1), BAD);
            due("second(" + n + ") of " + n, x.second(n), BAD);
            due("second(MIN)", x.second(LOW), BAD);
            due("second(MAX)", x.second(HIGH), BAD);
        }
    }

    // ---- promise 5

    private static void heapFreeLeastAndGreatest() {
        for (int n = 1; n <= MOST_THINGS; n++) {
            TwoColours x = withThings(n);
            int all = (1 << n) - 1;
            due("heap(FREE, -1, 0) of " + n, x.heap(FREE, -1, 0), BAD);
            due("heap(FREE, " + (all + 1) + ", 0) of " + n, x.heap(FREE, all + 1, 0), BAD);
            due("refused: no heaps", x.count(1), 0);
            due("heap(FREE, 0, 0) of " + n, x.heap(FREE, 0, 0), 0);
            due("heap(FREE, " + all + ", 0) of " + n, x.heap(FREE, all, 0), 1);
            due("bits of the empty one", x.bits(0), 0);
            due("bits of the whole one", x.bits(1), all);
        }
    }

    private static void heapFreeWithAnyB() {
        TwoColours x = withThings(2);
        int[] any = {LOW, -1, 0, 1, 13, HIGH};
        for (int i = 0; i < any.length; i++) {
            due("heap(FREE, 2, " + any[i] + ")", x.heap(FREE, 2, any[i]), i);
            due("bits(" + i + ")", x.bits(i), 2);
        }
    }

    private static void heapSpansLeastAndGreatest() {
        for (int n = 1; n <= MOST_THINGS; n++) {
            for (int kind : new int[] {SPAN, OTHER}) {
                TwoColours x = withThings(n);
                String of = ") of kind " + kind + " of " + n;
                int last = n - 1;
                due("heap(-1, " + last + of, x.heap(kind, -1, last), BAD);
                due("heap(0, " + n + of, x.heap(kind, 0, n), BAD);
                due("heap(" + n + ", " + n + of, x.heap(kind, n, n), BAD);
                due("heap(1, 0" + of, x.heap(kind, 1, 0), BAD);
                due("heap(0, " + last + of, x.heap(kind, 0, last), 0);
                due("heap(0, 0" + of, x.heap(kind, 0, 0), 1);
                due("heap(" + last + ", " + last + of, x.heap(kind, last, last), 2);
                due("bits(0)", x.bits(0), (1 << n) - 1);
                due("bits(1)", x.bits(1), 1);
                due("bits(2)", x.bits(2), 1 << last);
            }
        }
    }

    private static void heapEachLeastAndGreatest() {
        for (int n = 1; n <= MOST_THINGS; n++) {
            TwoColours x = withThings(n);
            String of = ") of EACH of " + n;
            due("heap(-1, 1" + of, x.heap(EACH, -1, 1), BAD);
            due("heap(" + n + ", 1" + of, x.heap(EACH, n, 1), BAD);
            due("heap(0, 0" + of, x.heap(EACH, 0, 0), BAD);
            due("heap(0, -1" + of, x.heap(EACH, 0, -1), BAD);
            due("heap(0, 13" + of, x.heap(EACH, 0, 13), BAD);
            due("heap(0, 1" + of, x.heap(EACH, 0, 1), 0);
            due("heap(0, 12" + of, x.heap(EACH, 0, 12), 1);
            due("heap(" + (n - 1) + ", 1" + of, x.heap(EACH, n - 1, 1), 2);
            due("heap(" + (n - 1) + ", 12" + of, x.heap(EACH, n - 1, 12), 3);
            due("bits(0)", x.bits(0), (1 << n) - 1);
            due("bits(1)", x.bits(1), 1);
            due("bits(2)", x.bits(2), 1 << n - 1);
            due("bits(3)", x.bits(3), 1 << n - 1);
        }
    }

    private static void heapTenthAndEleventh() {
        for (int kind = 0; kind < 4; kind++) {
            TwoColours x = withThings(2);
            for (int heap = 0; heap < MOST_HEAPS; heap++) {
                due("heap " + heap + " of kind " + kind, x.heap(kind, heap % 2, 1), heap);
            }
            due("the eleventh of kind " + kind, x.heap(kind, 1, 1), FULL);
            due("refused: there are ten", x.count(1), MOST_HEAPS);
            due("drop() of the tenth", x.drop(), 9);
            due("the tenth again", x.heap(kind, 1, 1), 9);
            due("the eleventh again", x.heap(kind, 1, 1), FULL);
            due("bits(9)", x.bits(9), kind == FREE ? 1 : 2);
            due("bits(10)", x.bits(10), BAD);
        }
    }

    private static void heapFullIsToldBehindBad() {
        TwoColours x = withAllInTen();
        due("full: kind -1", x.heap(-1, 0, 0), BAD);
        due("full: kind 4", x.heap(4, 0, 0), BAD);
        due("full: heap(FREE, 4096, 0)", x.heap(FREE, 4096, 0), BAD);
        due("full: heap(FREE, -1, 0)", x.heap(FREE, -1, 0), BAD);
        due("full: heap(SPAN, 1, 0)", x.heap(SPAN, 1, 0), BAD);
        due("full: heap(OTHER, 0, 12)", x.heap(OTHER, 0, 12), BAD);
        due("full: heap(EACH, 0, 0)", x.heap(EACH, 0, 0), BAD);
        due("full: heap(EACH, 11, 13)", x.heap(EACH, 11, 13), BAD);
        due("full: heap(EACH, 11, 12)", x.heap(EACH, 11, 12), FULL);
    }

    // ---- promise 6

    private static void dropFromFullToNone() {
        TwoColours x = withAllInTen();
        for (int left = 9; left >= 0; left--) {
            due("drop()", x.drop(), left);
            due("count(1)", x.count(1), left);
            due("bits of the dropped one", x.bits(left), BAD);
            due("times()", x.times(), left);
        }
        due("drop() of none", x.drop(), STATE);
        due("drop() of none, again", x.drop(), STATE);
        due("count(1)", x.count(1), 0);
        due("the next heap is the first", x.heap(FREE, 5, 0), 0);
    }

    private static void dropLeavesTheOthers() {
        TwoColours x = withHeaps(3, 1, 6, 7);
        x.hold(0, 1);
        due("drop()", x.drop(), 2);
        due("bits(0)", x.bits(0), 1);
        due("bits(1)", x.bits(1), 6);
        due("worst(0) of those left", x.worst(0), 2);
        due("squares(0) of those left", x.squares(0), 5);
        due("things stay", x.count(0), 3);
        due("what is held stays", x.count(3), 1);
    }

    private static void dropThenTellAgain() {
        TwoColours x = withThings(4);
        x.heap(EACH, 1, 2);
        x.drop();
        due("heap(OTHER, 2, 3) in its stead", x.heap(OTHER, 2, 3), 0);
        due("bits(0)", x.bits(0), 12);
        due("has(0, 1)", x.has(0, 1), 0);
        due("trace() of OTHER, not EACH", x.trace(), 110);
        x.swap(2, 0);
        due("bits(0) behind swap", x.bits(0), 9);
    }

    // ---- promise 7

    private static void hasAtTheEdgesOfSpans() {
        TwoColours x = withThings(12);
        for (int place = 0; place < 6; place++) {
            x.swap(place, 11 - place);
        }
        x.heap(SPAN, 3, 5);
        x.heap(OTHER, 3, 5);
        for (int thing = 0; thing < 12; thing++) {
            due("has(SPAN 3 .. 5, " + thing + ")", x.has(0, thing), thing >= 3 && thing <= 5 ? 1 : 0);
            due("has(OTHER 3 .. 5, " + thing + ")", x.has(1, thing), thing >= 6 && thing <= 8 ? 1 : 0);
        }
    }

    private static void hasAtTheEdgesOfEach() {
        TwoColours x = withThings(12);
        x.heap(EACH, 4, 3);
        x.heap(EACH, 11, 1);
        x.heap(EACH, 0, 11);
        x.heap(EACH, 0, 12);
        String[] members = {"000010010010", "000000000001", "100000000001", "100000000000"};
        for (int heap = 0; heap < members.length; heap++) {
            for (int thing = 0; thing < 12; thing++) {
                due("has(" + heap + ", " + thing + ")", x.has(heap, thing), members[heap].charAt(thing) - '0');
            }
        }
    }

    private static void hasOfFreeAtItsBits() {
        TwoColours x = withHeaps(12, 0, 4095, 1, 2048);
        for (int thing = 0; thing < 12; thing++) {
            due("has(none, " + thing + ")", x.has(0, thing), 0);
            due("has(all, " + thing + ")", x.has(1, thing), 1);
            due("has(the first, " + thing + ")", x.has(2, thing), thing == 0 ? 1 : 0);
            due("has(the last, " + thing + ")", x.has(3, thing), thing == 11 ? 1 : 0);
        }
    }

    private static void hasOfFirstAndLastHeap() {
        for (int n = 1; n <= MOST_THINGS; n++) {
            TwoColours x = withThings(n);
            due("has(0, 0) without heaps", x.has(0, 0), BAD);
            for (int heap = 0; heap < MOST_HEAPS; heap++) {
                x.heap(SPAN, 0, n - 1);
                due("has(the last heap, the last thing)", x.has(heap, n - 1), 1);
                due("has(the first heap, the first thing)", x.has(0, 0), 1);
                due("has(the first one beyond, 0)", x.has(heap + 1, 0), BAD);
                due("has(-1, 0)", x.has(-1, 0), BAD);
                due("has(the last heap, the first one beyond)", x.has(heap, n), BAD);
                due("has(the last heap, -1)", x.has(heap, -1), BAD);
            }
        }
    }

    // ---- promise 8

    private static void bitsOfNoneAndAll() {
        TwoColours x = withHeaps(12, 0, 4095, 2048, 1);
        due("bits of none", x.bits(0), 0);
        due("bits of all", x.bits(1), 4095);
        due("bits of the last", x.bits(2), 2048);
        due("bits of the first", x.bits(3), 1);
        due("bits(4): the first one beyond", x.bits(4), BAD);
        due("bits(-1)", x.bits(-1), BAD);
        due("bits(MIN)", x.bits(LOW), BAD);
        due("bits(MAX)", x.bits(HIGH), BAD);
        due("bits(0) without heaps", withThings(3).bits(0), BAD);
    }

    // ---- promise 9

    private static void holdEachColourBehindEach() {
        for (int before = -1; before <= 1; before++) {
            for (int colour = -1; colour <= 1; colour++) {
                TwoColours x = withThings(2);
                String call = "hold(1, " + colour + ") behind " + before;
                due("hold(1, " + before + ")", x.hold(1, before), -1);
                due(call, x.hold(1, colour), before);
                due(call + ": count(3)", x.count(3), colour == -1 ? 0 : 1);
                due(call + ": first()", x.first(), colour == 1 ? 2 : 0);
                due(call + ": many()", x.many(), colour == -1 ? 4 : 2);
                due(call + ": asked again", x.hold(1, colour), colour);
            }
        }
    }

    private static void holdFirstAndLastThing() {
        for (int n = 1; n <= MOST_THINGS; n++) {
            TwoColours x = withThings(n);
            due("hold(-1, 1) of " + n, x.hold(-1, 1), BAD_HOLD);
            due("hold(" + n + ", 1) of " + n, x.hold(n, 1), BAD_HOLD);
            due("hold(" + n + ", -1) of " + n, x.hold(n, -1), BAD_HOLD);
            due("refused: none is held", x.count(3), 0);
            due("hold(" + (n - 1) + ", 1) of " + n, x.hold(n - 1, 1), -1);
            due("first() with the last held", x.first(), 1 << n - 1);
            due("hold(0, 1) of " + n, x.hold(0, 1), n == 1 ? 1 : -1);
            due("first() with the first held too", x.first(), 1 | 1 << n - 1);
        }
    }

    private static void holdRefusedKeepsWhatWasHeld() {
        TwoColours x = withThings(2);
        x.hold(0, 1);
        x.hold(1, 0);
        due("hold(0, 2)", x.hold(0, 2), BAD_HOLD);
        due("hold(1, 2)", x.hold(1, 2), BAD_HOLD);
        due("hold(0, -2)", x.hold(0, -2), BAD_HOLD);
        due("hold(1, -2)", x.hold(1, -2), BAD_HOLD);
        due("refused: 0 is held to", x.hold(0, -1), 1);
        due("refused: 1 is held to", x.hold(1, -1), 0);
    }

    // ---- promise 10

    private static void offOfLeastAndGreatestColouring() {
        for (int n = 1; n <= MOST_THINGS; n++) {
            TwoColours x = withHeaps(n, (1 << n) - 1);
            due("off(0, 0) of " + n, x.off(0, 0), n);
            due("off(the greatest, 0) of " + n, x.off((1 << n) - 1, 0), n);
            due("off(the first one beyond, 0) of " + n, x.off(1 << n, 0), BAD);
            due("off(-1, 0) of " + n, x.off(-1, 0), BAD);
            due("off(0, 1): no such heap", x.off(0, 1), BAD);
            due("off(0, -1): no such heap", x.off(0, -1), BAD);
        }
        due("off(0, 0) without heaps", withThings(3).off(0, 0), BAD);
        due("off(0, 9), the last of ten", withAllInTen().off(63, 9), 0);
        due("off(0, 10), beyond ten", withAllInTen().off(0, 10), BAD);
    }

    private static void offOfEmptyOneAndAll() {
        TwoColours x = withHeaps(4, 0, 8, 15);
        due("off(15) of an empty heap", x.off(15, 0), 0);
        due("off(0) of one thing", x.off(0, 1), 1);
        due("off(8) of one thing", x.off(8, 1), 1);
        due("off(7): what is not in the heap does not count", x.off(7, 1), 1);
        due("off(5) half and half", x.off(5, 2), 0);
        due("off(7): more of 1", x.off(7, 2), 2);
        due("off(8): more of 0", x.off(8, 2), 2);
    }

    // ---- promises 11 and 12

    private static void worstWithoutHeapsAndOfAll() {
        due("worst(0) without heaps", withThings(12).worst(0), 0);
        due("worst(4095) without heaps", withThings(12).worst(4095), 0);
        due("worst(4096) without heaps", withThings(12).worst(4096), BAD);
        due("worst(-1) without heaps", withThings(12).worst(-1), BAD);
        due("worst(7) of an empty heap", withHeaps(3, 0).worst(7), 0);
        TwoColours ten = withAllInTen();
        due("worst(0) of ten", ten.worst(0), 12);
        due("worst(4095) of ten", ten.worst(4095), 12);
        due("worst(63) of ten", ten.worst(63), 0);
        due("worst(0): the first is worst", withHeaps(4, 15, 7, 1).worst(0), 4);
        due("worst(0): the last is worst", withHeaps(4, 1, 7, 15).worst(0), 4);
    }

    private static void squaresWithoutHeapsAndOfAll() {
        due("squares(0) without heaps", withThings(12).squares(0), 0);
        due("squares(4095) without heaps", withThings(12).squares(4095), 0);
        due("squares(4096) without heaps", withThings(12).squares(4096), BAD);
        due("squares(-1) without heaps", withThings(12).squares(-1), BAD);
        due("squares(7) of an empty heap", withHeaps(3, 0).squares(7), 0);
        TwoColours ten = withAllInTen();
        due("squares(0) of ten", ten.squares(0), 1440);
        due("squares(4095) of ten", ten.squares(4095), 1440);
        due("squares(63) of ten", ten.squares(63), 0);
    }

    // ---- promise 13

    private static void timesNoneAndTen() {
        due("times() without heaps", withThings(12).times(), 0);
        due("times() of ten empty heaps", withHeaps(3, 0, 0, 0, 0, 0, 0, 0, 0, 0, 0).times(), 0);
        due("times() of one heap of one thing", withHeaps(12, 2048).times(), 1);
        due("times() of ten", withAllInTen().times(), 10);
        due("times() of heaps of one thing each", withHeaps(3, 1, 2, 4).times(), 1);
    }

    // ---- promises 14 to 17

    private static void searchesWithoutHeaps() {
        for (int n = 1; n <= MOST_THINGS; n++) {
            searches(n + " without heaps", withThings(n), 0, 0, 1 << n, 0);
        }
        TwoColours held = withThings(12);
        held.hold(11, 1);
        searches("one held without heaps", held, 0, 2048, 2048, 0);
    }

    private static void searchesWithAllHeld() {
        TwoColours x = withAllInTen();
        holdAll(x, 1);
        searches("all held to 1", x, 12, 4095, 1, 1440);
        holdAll(x, 0);
        searches("all held to 0", x, 12, 0, 1, 1440);
        TwoColours one = withHeaps(1, 1);
        one.hold(0, 1);
        searches("the only one held to 1", one, 1, 1, 1, 1);
    }

    private static void searchesWithAllButOneHeld() {
        TwoColours last = withHeaps(4, 15);
        holdAll(last, 1);
        last.hold(3, -1);
        searches("all but the last held to 1", last, 2, 7, 1, 4);
        TwoColours first = withHeaps(4, 15);
        holdAll(first, 0);
        first.hold(0, -1);
        searches("all but the first held to 0", first, 2, 1, 1, 4);
    }

    private static void searchesOfEmptyAndWholeHeaps() {
        searches("an empty heap", withHeaps(3, 0), 0, 0, 8, 0);
        searches("one thing", withHeaps(1, 1), 1, 0, 2, 1);
        searches("two things", withHeaps(2, 3), 0, 1, 2, 0);
        searches("eleven things", withHeaps(11, 2047), 1, 31, 924, 1);
        searches("twelve things in ten heaps", withAllInTen(), 0, 63, 924, 0);
    }

    /** FIRST may be the least or the greatest of all; LEAST and FEWEST SQUARES may want unlike colourings. */
    private static void searchesAtTheirEdges() {
        searches("all are as good", withHeaps(2, 1, 2), 1, 0, 4, 2);
        TwoColours greatest = withHeaps(2, 3);
        greatest.hold(0, 0);
        searches("the greatest alone", greatest, 0, 2, 1, 0);
        TwoColours unlike = withHeaps(3, 3, 5, 6);
        searches("three that can't be even", unlike, 2, 0, 8, 4);
        TwoColours many = withHeaps(3, 7, 3, 3, 3, 3, 3, 3, 3, 3, 3);
        searches("one odd heap and nine like ones", many, 1, 1, 4, 1);
    }

    // ---- promise 18

    private static void turnsOfEachNumber() {
        for (int n = 1; n <= MOST_THINGS; n++) {
            TwoColours x = withThings(n);
            due("turns() of " + n, x.turns(), ALTERNATING[n - 1]);
            holdAll(x, 1);
            x.heap(FREE, (1 << n) - 1, 0);
            x.swap(0, n - 1);
            due("turns() of " + n + " whatever else is told", x.turns(), ALTERNATING[n - 1]);
        }
    }

    // ---- promise 19

    private static void pairsOfLikeOrders() {
        for (int n = 1; n <= MOST_THINGS; n++) {
            TwoColours x = withThings(n);
            due("pairs() of like orders of " + n, x.pairs(), ALTERNATING[n - 1]);
            holdAll(x, 1);
            due("pairs() whatever is held", x.pairs(), ALTERNATING[n - 1]);
        }
        TwoColours two = withThings(2);
        two.swap(0, 1);
        due("pairs() of two turned round", two.pairs(), 2);
    }

    private static void pairsOfOddNumbers() {
        TwoColours last = withThings(3);
        due("pairs(): 2 is last in both orders", last.pairs(), 2);
        last.swap(1, 2);
        due("pairs(): 1 is last in the second order", last.pairs(), 6);
        last.swap(0, 2);
        due("pairs(): 0 is last in the second order", last.pairs(), 2);
        TwoColours five = withThings(5);
        five.swap(0, 4);
        five.swap(1, 4);
        five.swap(2, 4);
        secondOrder("three swaps of five", five, 4, 0, 1, 3, 2);
        due("pairs() of the row 4 0 1 3 2", five.pairs(), 22);
    }

    private static void pairsOfLongestRingAndRow() {
        for (int n = 11; n <= 12; n++) {
            TwoColours x = withThings(n);
            for (int place = 0; place + 1 < n; place++) {
                x.swap(place, place + 1);
            }
            due("the first is last in the second order", x.second(n - 1), 0);
            due("pairs() of all " + n + " hanging together", x.pairs(), ALTERNATING[n - 1]);
        }
    }

    // ---- promise 20

    private static void comeAtSumsAroundNought() {
        due("come() at a sum of -1", withHeaps(2, 3).come(), 2);
        TwoColours nought = withHeaps(3, 7);
        nought.hold(0, 1);
        nought.hold(1, 0);
        due("come() at a sum of 0", nought.come(), 1);
        nought.hold(1, 1);
        due("come() at a sum of 2", nought.come(), 3);
        TwoColours one = withHeaps(2, 3);
        one.hold(0, 1);
        due("come() at a sum of 1", one.come(), 1);
        due("come() at a sum of 1 - 2", withHeaps(5, 3, 18, 20, 24).come(), 18);
    }

    private static void comeEmptyAndFull() {
        due("come() of one thing", withHeaps(1, 1).come(), 0);
        due("come() without heaps", withThings(12).come(), 0);
        due("come() of empty heaps", withHeaps(12, 0, 0).come(), 0);
        due("come() of ten whole heaps", withAllInTen().come(), 2730);
        TwoColours held = withAllInTen();
        holdAll(held, 1);
        due("come() of all held to 1", held.come(), 4095);
        holdAll(held, 0);
        due("come() of all held to 0", held.come(), 0);
        held.hold(11, -1);
        due("come() of all but the last held to 0", held.come(), 2048);
        TwoColours unheaped = withThings(3);
        unheaped.hold(2, 1);
        due("come() of one held without heaps", unheaped.come(), 4);
    }

    // ---- promise 21

    private static void stepLeastAndGreatest() {
        int[][] taken = {{-20, -20}, {-20, 20}, {20, -20}, {20, 20}, {0, 0}, {-20, 0}, {0, 20}};
        TwoColours x = new TwoColours();
        for (int i = 0; i < taken.length; i++) {
            due("step(" + taken[i][0] + ", " + taken[i][1] + ")", x.step(taken[i][0], taken[i][1]), i);
        }
        for (int wrong : new int[] {-21, 21, LOW, HIGH}) {
            due("step(" + wrong + ", 0)", x.step(wrong, 0), BAD);
            due("step(0, " + wrong + ")", x.step(0, wrong), BAD);
            due("step(" + wrong + ", " + wrong + ")", x.step(wrong, wrong), BAD);
        }
        due("refused: count(2)", x.count(2), taken.length);
    }

    private static void stepTenthAndEleventh() {
        TwoColours x = withLikeSteps(MOST_STEPS, 1, 0);
        due("the eleventh step", x.step(1, 0), FULL);
        due("the eleventh step, wrong in x", x.step(21, 0), BAD);
        due("the eleventh step, wrong in y", x.step(0, -21), BAD);
        due("refused: count(2)", x.count(2), MOST_STEPS);
        due("refused: stray(0)", x.stray(0), 10);
        due("clear()", x.clear(), MOST_STEPS);
        due("the first step again", x.step(2, 0), 0);
        due("stray(0)", x.stray(0), 2);
    }

    // ---- promise 22

    private static void clearNoneOneAndTen() {
        for (int many = 0; many <= MOST_STEPS; many++) {
            TwoColours x = withLikeSteps(many, 1, 2);
            due("clear() of " + many, x.clear(), many);
            due("clear() again", x.clear(), 0);
            due("count(2)", x.count(2), 0);
            due("stray(0) of none", x.stray(0), 0);
            due("stray(1) of none", x.stray(1), BAD);
            straights("cleared", x, 0, 0, 0);
        }
        TwoColours x = withHeaps(2, 3);
        x.hold(0, 1);
        x.step(1, 1);
        x.has(0, 0);
        x.clear();
        due("clear() leaves heaps", x.bits(0), 3);
        due("clear() leaves the trace", x.trace(), 1);
        due("clear() leaves what is held", x.count(3), 1);
    }

    // ---- promise 23

    private static void strayOfLeastAndGreatestSigns() {
        for (int many = 0; many <= MOST_STEPS; many++) {
            TwoColours x = withLikeSteps(many, -3, 1);
            due("stray(0) of " + many, x.stray(0), 3 * many);
            due("stray(the greatest) of " + many, x.stray((1 << many) - 1), 3 * many);
            due("stray(the first one beyond) of " + many, x.stray(1 << many), BAD);
            due("stray(-1) of " + many, x.stray(-1), BAD);
            due("stray(MIN) of " + many, x.stray(LOW), BAD);
            due("stray(MAX) of " + many, x.stray(HIGH), BAD);
        }
    }

    private static void strayGreatestOfAll() {
        due("stray(0) of ten times 20 in x", withLikeSteps(10, 20, 0).stray(0), 200);
        due("stray(1023) of ten times 20 in x", withLikeSteps(10, 20, 0).stray(1023), 200);
        due("stray(0) of ten times -20 in y", withLikeSteps(10, 0, -20).stray(0), 200);
        due("stray(1023) of ten times -20 in y", withLikeSteps(10, 0, -20).stray(1023), 200);
        due("stray(0) of ten times nothing", withLikeSteps(10, 0, 0).stray(0), 0);
    }

    private static void strayStoodAhead() {
        TwoColours x = withLikeSteps(2, 20, 0);
        due("stray(2): one is back where one was", x.stray(2), 20);
        due("stray(512): the last sign alone", withLikeSteps(10, 1, 0).stray(512), 9);
        due("stray(1): the first sign alone", withLikeSteps(10, 1, 0).stray(1), 8);
    }

    // ---- promise 24

    private static void straightWithoutSteps() {
        TwoColours x = new TwoColours();
        straights("no steps", x, 0, 0, 0);
        due("straight(-1)", x.straight(-1), BAD);
        due("straight(3)", x.straight(3), BAD);
        due("straight(MIN)", x.straight(LOW), BAD);
        due("straight(MAX)", x.straight(HIGH), BAD);
    }

    private static void straightOfLikeOnes() {
        straights("one step", withLikeSteps(1, -20, 20), 20, 0, 0);
        straights("ten steps of nothing", withLikeSteps(10, 0, 0), 0, 0, 0);
        TwoColours across = withLikeSteps(1, 4, 0);
        across.step(0, 4);
        straights("like sizes either way", across, 4, 0, 0);
        TwoColours below = withLikeSteps(1, 4, 0);
        below.step(1, 0);
        straights("less by one the other way", below, 4, 1, 2);
    }

    private static void straightOfTen() {
        straights("ten times there and back", withLikeSteps(10, 20, -20), 20, 341, 682);
        TwoColours back = new TwoColours();
        for (int step = 0; step < MOST_STEPS; step++) {
            back.step(step % 2 == 0 ? 20 : -20, 0);
        }
        straights("ten that go back by themselves", back, 20, 0, 0);
    }

    // ---- promise 25

    private static void countFromNoneToFull() {
        for (int n = 1; n <= MOST_THINGS; n++) {
            TwoColours x = withThings(n);
            due("count(0)", x.count(0), n);
            for (int thing = 0; thing < n; thing++) {
                due("count(3)", x.count(3), thing);
                x.hold(thing, thing % 2);
            }
            due("count(3) of all held", x.count(3), n);
        }
        TwoColours x = new TwoColours();
        for (int i = 0; i < 10; i++) {
            due("count(1)", x.count(1), i);
            due("count(2)", x.count(2), i);
            x.heap(FREE, 1, 0);
            x.step(1, 1);
        }
        due("count(1) when full", x.count(1), MOST_HEAPS);
        due("count(2) when full", x.count(2), MOST_STEPS);
        for (int wrong : new int[] {-1, 4, LOW, HIGH}) {
            due("count(" + wrong + ")", x.count(wrong), BAD);
        }
    }

    // ---- promise 26

    private static void traceFromNought() {
        int[] added = {1, 10, 110, 1000};
        for (int kind = 0; kind < 4; kind++) {
            TwoColours x = withThings(12);
            due("trace() at first", x.trace(), 0);
            x.heap(kind, 1, 1);
            due("trace() behind heap()", x.trace(), 0);
            x.has(0, 11);
            due("trace() behind has() of kind " + kind, x.trace(), added[kind]);
            due("trace() asked again", x.trace(), added[kind]);
        }
        TwoColours most = withThings(2);
        most.heap(EACH, 0, 1);
        for (int call = 0; call < 500; call++) {
            most.has(0, call % 2);
        }
        due("trace() behind 500 calls of EACH", most.trace(), 500_000);
    }

    private static void traceOfRefusedCalls() {
        TwoColours x = withThings(2);
        for (int kind = 0; kind < 4; kind++) {
            x.heap(kind, 1, 1);
            due("has(" + kind + ", 2)", x.has(kind, 2), BAD);
            due("has(" + kind + ", -1)", x.has(kind, -1), BAD);
            due("has(" + (kind + 1) + ", 0)", x.has(kind + 1, 0), BAD);
        }
        due("has(-1, 0)", x.has(-1, 0), BAD);
        due("trace() of refused calls", x.trace(), 0);
    }
}
