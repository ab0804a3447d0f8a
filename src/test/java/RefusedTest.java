import java.util.ArrayList;
import java.util.List;
import java.util.function.Supplier;
import java.util.function.ToIntFunction;

/**
 * Each kind of refused call, in states from empty to full: what it answers, and that all later calls
 * answer as they do on a twin of the object that was never asked.
 */
public final class RefusedTest {
    private static final int BAD = -1, STATE = -2, FULL = -3;
    // hold() tells BAD by a number of its own.
    private static final int BAD_HOLD = -2;
    private static final int LOW = Integer.MIN_VALUE, HIGH = Integer.MAX_VALUE;
    private static final int FREE = 0, SPAN = 1, OTHER = 2, EACH = 3;

    // An object answers 512 calls; the ways to a state and the looks at it take some 200 of them.
    private static final int IN_A_ROW = 250;

    private static final Checks checks = new Checks();

    private record State(String name, Supplier<TwoColours> made, int things, int heaps, int steps) {
    }

    private record Refusal(String call, ToIntFunction<TwoColours> made, int want) {
    }

    public static void main(String[] args) {
        look(new State("new", TwoColours::new, 1, 0, 0));
        look(new State("one of each", RefusedTest::oneOfEach, 1, 1, 1));
        look(new State("busy", RefusedTest::busy, 5, 4, 3));
        look(new State("nearly full", RefusedTest::nearlyFull, 12, 9, 9));
        look(new State("full", RefusedTest::full, 12, 10, 10));
        look(new State("full of small", RefusedTest::fullOfSmall, 2, 10, 10));
        look(new State("emptied", RefusedTest::emptied, 12, 0, 0));
        look(new State("shrunk", RefusedTest::shrunk, 3, 0, 10));
        checks.end();
    }

    // ---- states

    private static TwoColours oneOfEach() {
        TwoColours x = new TwoColours();
        x.heap(FREE, 1, 0);
        x.hold(0, 1);
        x.step(-20, 20);
        return x;
    }

    private static TwoColours busy() {
        TwoColours x = new TwoColours();
        x.things(5);
        x.swap(0, 3);
        x.swap(1, 4);
        x.heap(OTHER, 1, 3);
        x.heap(FREE, 21, 0);
        x.heap(EACH, 1, 2);
        x.heap(SPAN, 2, 4);
        x.hold(2, 1);
        x.hold(4, 0);
        x.has(0, 0);
        x.step(4, -7);
        x.step(1, 1);
        x.step(-20, 9);
        return x;
    }

    private static TwoColours nearlyFull() {
        TwoColours x = full();
        x.drop();
        x.hold(11, -1);
        x.clear();
        for (int step = 0; step < 9; step++) {
            x.step(20 - step, step - 20);
        }
        return x;
    }

    private static TwoColours full() {
        TwoColours x = new TwoColours();
        x.things(12);
        for (int place = 0; place < 6; place++) {
            x.swap(place, 11 - place / 2);
        }
        fill(x, 12);
        x.has(2, 11);
        return x;
    }

    private static TwoColours fullOfSmall() {
        TwoColours x = new TwoColours();
        x.things(2);
        x.swap(0, 1);
        fill(x, 2);
        return x;
    }

    private static void fill(TwoColours x, int things) {
        for (int heap = 0; heap < 10; heap++) {
            x.heap(heap % 4, heap % things, heap % 4 == FREE ? 0 : things - 1);
        }
        for (int thing = 0; thing < things; thing++) {
            x.hold(thing, thing % 3 == 0 ? 1 : 0);
        }
        for (int step = 0; step < 10; step++) {
            x.step(20 - 4 * step, 3 * step - 10);
        }
    }

    private static TwoColours emptied() {
        TwoColours x = full();
        for (int heap = 0; heap < 10; heap++) {
            x.drop();
        }
        for (int thing = 0; thing < 12; thing++) {
            x.hold(thing, -1);
        }
        x.clear();
        return x;
    }

    private static TwoColours shrunk() {
        TwoColours x = full();
        x.things(3);
        return x;
    }

    // ---- looking

    private static void look(State state) {
        TwoColours first = state.made.get();
        checks.due(state.name + ": count(0)", first.count(0), state.things);
        checks.due(state.name + ": count(1)", first.count(1), state.heaps);
        checks.due(state.name + ": count(2)", first.count(2), state.steps);
        String untouched = later(state.made.get());
        List<Refusal> all = refusals(state);
        for (Refusal refusal : all) {
            TwoColours x = state.made.get();
            checks.due(state.name + ": " + refusal.call, refusal.made.applyAsInt(x), refusal.want);
            checks.due(state.name + ": calls behind " + refusal.call, later(x), untouched);
        }
        for (int from = 0; from < all.size(); from += IN_A_ROW) {
            TwoColours x = state.made.get();
            for (Refusal refusal : all.subList(from, Math.min(from + IN_A_ROW, all.size()))) {
                refusal.made.applyAsInt(x);
            }
            checks.due(state.name + ": calls behind many that are refused, from " + from, later(x), untouched);
        }
    }

    /** What later calls answer, first those that change nothing, then those that change all there is. */
    private static String later(TwoColours x) {
        StringBuilder seen = new StringBuilder();
        seeThings(x, seen);
        seeColourings(x, seen);
        seeSteps(x, seen);
        emptyAll(x, seen);
        growAgain(x, seen);
        return seen.toString();
    }

    private static void seeThings(TwoColours x, StringBuilder seen) {
        seen.append("trace ").append(x.trace()).append(" counts");
        for (int what = 0; what < 4; what++) {
            seen.append(' ').append(x.count(what));
        }
        seen.append(" second and bits");
        for (int i = 0; i < 12; i++) {
            seen.append(' ').append(x.second(i)).append(' ').append(x.bits(i));
        }
        seen.append(" has");
        for (int heap = 0; heap < x.count(1); heap++) {
            seen.append(' ').append(x.has(heap, 0));
        }
        seen.append(" trace ").append(x.trace());
    }

    private static void seeColourings(TwoColours x, StringBuilder seen) {
        seen.append(" searches ").append(x.least()).append(' ').append(x.first());
        seen.append(' ').append(x.many()).append(' ').append(x.fewest());
        seen.append(" times ").append(x.times()).append(" turns ").append(x.turns());
        seen.append(" pairs ").append(x.pairs()).append(" come ").append(x.come());
        seen.append(" of 1 ").append(x.worst(1)).append(' ').append(x.squares(1)).append(' ').append(x.off(1, 0));
    }

    private static void seeSteps(TwoColours x, StringBuilder seen) {
        seen.append(" strays ").append(x.stray(0));
        for (int step = 0; step < x.count(2); step++) {
            seen.append(' ').append(x.stray(1 << step));
        }
        for (int what = 0; what < 3; what++) {
            seen.append(' ').append(x.straight(what));
        }
    }

    private static void emptyAll(TwoColours x, StringBuilder seen) {
        seen.append(" held");
        for (int thing = 0; thing < 12; thing++) {
            seen.append(' ').append(x.hold(thing, -1));
        }
        seen.append(" first ").append(x.first()).append(" drops");
        for (int heap = 0; heap < 11; heap++) {
            seen.append(' ').append(x.drop());
        }
        seen.append(" clear ").append(x.clear()).append(' ').append(x.clear());
    }

    private static void growAgain(TwoColours x, StringBuilder seen) {
        seen.append(" again ").append(x.swap(0, x.count(0) - 1)).append(' ').append(x.heap(OTHER, 0, 0));
        seen.append(' ').append(x.bits(0)).append(' ').append(x.has(0, 0)).append(' ').append(x.trace());
        seen.append(' ').append(x.step(3, -4)).append(' ').append(x.stray(0));
        seen.append(" things ").append(x.things(12)).append(' ').append(x.many());
        for (int i = 0; i < 12; i++) {
            seen.append(' ').append(x.second(i));
        }
        seen.append(" full ");
        for (int i = 1; i < 11; i++) {
            seen.append(' ').append(x.heap(EACH, i, 12)).append(' ').append(x.step(i, i));
        }
    }

    // ---- what is refused

    private static List<Refusal> refusals(State state) {
        List<Refusal> all = new ArrayList<>();
        refuseThingsAndPlaces(all, state);
        refuseWrongHeaps(all, state);
        refuseWrongSpans(all, state);
        refuseWrongNumbersOfHeaps(all, state);
        refuseHolds(all, state);
        refuseColourings(all, state);
        refuseSteps(all, state);
        refuseByState(all, state);
        refuseByFull(all, state);
        return all;
    }

    /** No such number of 0 .. many - 1: the nearest ones, those that a shift would wrap, the farthest. */
    private static int[] beyond(int many) {
        return new int[] {LOW, LOW + 1, -32, -2, -1, many, many + 1, 32, 33, HIGH - 1, HIGH};
    }

    /** No such bits: the nearest ones, and those with right bits below the wrong one. */
    private static int[] beyondBits(int many) {
        return new int[] {LOW, LOW + 1, -2, -1, 1 << many, (1 << many) + 1, 1 << 30, HIGH};
    }

    private static void refuse(List<Refusal> all, String call, ToIntFunction<TwoColours> made, int want) {
        all.add(new Refusal(call, made, want));
    }

    private static void refuseHeap(List<Refusal> all, int kind, int a, int b, int want) {
        refuse(all, "heap(" + kind + ", " + a + ", " + b + ")", x -> x.heap(kind, a, b), want);
    }

    private static void refuseThingsAndPlaces(List<Refusal> all, State state) {
        for (int n : new int[] {LOW, -12, -1, 0, 13, 14, 44, HIGH}) {
            refuse(all, "things(" + n + ")", x -> x.things(n), BAD);
        }
        for (int wrong : beyond(state.things)) {
            refuse(all, "swap(" + wrong + ", 0)", x -> x.swap(wrong, 0), BAD);
            refuse(all, "swap(0, " + wrong + ")", x -> x.swap(0, wrong), BAD);
            refuse(all, "swap(" + wrong + ", " + wrong + ")", x -> x.swap(wrong, wrong), BAD);
            refuse(all, "second(" + wrong + ")", x -> x.second(wrong), BAD);
        }
    }

    /** These are BAD of a full object too, since BAD comes ahead of FULL. */
    private static void refuseWrongHeaps(List<Refusal> all, State state) {
        for (int kind : beyond(4)) {
            refuseHeap(all, kind, 0, 0, BAD);
        }
        for (int a : beyondBits(state.things)) {
            refuseHeap(all, FREE, a, 0, BAD);
        }
        for (int a : beyond(state.things)) {
            refuseHeap(all, EACH, a, 1, BAD);
        }
        for (int b : new int[] {LOW, -12, -1, 0, 13, 14, HIGH}) {
            refuseHeap(all, EACH, 0, b, BAD);
        }
    }

    private static void refuseWrongSpans(List<Refusal> all, State state) {
        int last = state.things - 1;
        for (int kind : new int[] {SPAN, OTHER}) {
            for (int wrong : beyond(state.things)) {
                refuseHeap(all, kind, wrong, last, BAD);
                refuseHeap(all, kind, 0, wrong, BAD);
                refuseHeap(all, kind, wrong, wrong, BAD);
            }
            for (int a = 1; a <= last; a++) {
                refuseHeap(all, kind, a, a - 1, BAD);
            }
            if (last > 0) {
                refuseHeap(all, kind, last, 0, BAD);
            }
        }
    }

    private static void refuseWrongNumbersOfHeaps(List<Refusal> all, State state) {
        for (int wrong : beyond(state.heaps)) {
            refuse(all, "has(" + wrong + ", 0)", x -> x.has(wrong, 0), BAD);
            refuse(all, "bits(" + wrong + ")", x -> x.bits(wrong), BAD);
            refuse(all, "off(0, " + wrong + ")", x -> x.off(0, wrong), BAD);
        }
        for (int wrong : beyond(state.things)) {
            for (int heap : new int[] {0, state.heaps - 1, state.heaps}) {
                refuse(all, "has(" + heap + ", " + wrong + ")", x -> x.has(heap, wrong), BAD);
            }
        }
    }

    private static void refuseHolds(List<Refusal> all, State state) {
        for (int wrong : beyond(state.things)) {
            for (int colour = -1; colour <= 1; colour++) {
                int told = colour;
                refuse(all, "hold(" + wrong + ", " + told + ")", x -> x.hold(wrong, told), BAD_HOLD);
            }
        }
        for (int colour : new int[] {LOW, -3, -2, 2, 3, HIGH}) {
            refuse(all, "hold(0, " + colour + ")", x -> x.hold(0, colour), BAD_HOLD);
            refuse(all, "hold(last, " + colour + ")", x -> x.hold(state.things - 1, colour), BAD_HOLD);
            refuse(all, "hold(none, " + colour + ")", x -> x.hold(state.things, colour), BAD_HOLD);
        }
    }

    private static void refuseColourings(List<Refusal> all, State state) {
        for (int wrong : beyondBits(state.things)) {
            refuse(all, "worst(" + wrong + ")", x -> x.worst(wrong), BAD);
            refuse(all, "squares(" + wrong + ")", x -> x.squares(wrong), BAD);
            for (int heap : new int[] {-1, 0, state.heaps - 1, state.heaps}) {
                refuse(all, "off(" + wrong + ", " + heap + ")", x -> x.off(wrong, heap), BAD);
            }
        }
    }

    /** A wrong step is BAD of a full object too, since BAD comes ahead of FULL. */
    private static void refuseSteps(List<Refusal> all, State state) {
        for (int wrong : new int[] {LOW, LOW + 1, -22, -21, 21, 22, HIGH}) {
            for (int right : new int[] {-20, 0, 20}) {
                refuse(all, "step(" + wrong + ", " + right + ")", x -> x.step(wrong, right), BAD);
                refuse(all, "step(" + right + ", " + wrong + ")", x -> x.step(right, wrong), BAD);
            }
            refuse(all, "step(" + wrong + ", " + wrong + ")", x -> x.step(wrong, wrong), BAD);
        }
        for (int wrong : beyondBits(state.steps)) {
            refuse(all, "stray(" + wrong + ")", x -> x.stray(wrong), BAD);
        }
        for (int wrong : beyond(3)) {
            refuse(all, "straight(" + wrong + ")", x -> x.straight(wrong), BAD);
        }
        for (int wrong : beyond(4)) {
            refuse(all, "count(" + wrong + ")", x -> x.count(wrong), BAD);
        }
    }

    private static void refuseByState(List<Refusal> all, State state) {
        if (state.heaps == 0) {
            refuse(all, "drop()", TwoColours::drop, STATE);
        }
    }

    private static void refuseByFull(List<Refusal> all, State state) {
        int last = state.things - 1;
        if (state.heaps == 10) {
            for (int kind : new int[] {SPAN, OTHER}) {
                refuseHeap(all, kind, 0, 0, FULL);
                refuseHeap(all, kind, 0, last, FULL);
                refuseHeap(all, kind, last, last, FULL);
            }
            refuseHeap(all, FREE, 0, 0, FULL);
            refuseHeap(all, FREE, (1 << state.things) - 1, LOW, FULL);
            refuseHeap(all, EACH, 0, 1, FULL);
            refuseHeap(all, EACH, last, 12, FULL);
        }
        if (state.steps == 10) {
            refuse(all, "step(0, 0)", x -> x.step(0, 0), FULL);
            refuse(all, "step(-20, 20)", x -> x.step(-20, 20), FULL);
            refuse(all, "step(20, -20)", x -> x.step(20, -20), FULL);
        }
    }
}
