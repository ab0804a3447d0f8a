import java.util.Arrays;

/**
 * Things coloured with two colours so that every told heap is as nearly half and half as can be,
 * and steps signed so that one never strays far.
 *
 * <p>A set of things and a colouring are both bits of an int: bit k stands for thing k.
 */
public final class TwoColours {
    public static final int BAD = -1, STATE = -2, FULL = -3, NONE = -9;

    private static final int MOST_THINGS = 12;
    private static final int MOST_HEAPS = 10;
    private static final int MOST_STEPS = 10;
    private static final int GREATEST_EACH = 12;
    private static final int LONGEST_STEP = 20;

    private static final int FREE = 0, SPAN = 1, OTHER = 2, EACH = 3;

    private static final int HELD_TO_NONE = -1;
    // hold() can't refuse with BAD: that number says "was held to none" there.
    private static final int BAD_HOLD = -2;
    private static final int UNCOLOURED = -1;

    private int thingCount = 1;
    private final int[] thingAt = new int[MOST_THINGS];
    private final int[] placeOf = new int[MOST_THINGS];
    private int heldThings = 0;
    private int heldColours = 0;
    private final int[] colourByPairs = new int[MOST_THINGS];

    private int heapCount = 0;
    private final int[] heapKind = new int[MOST_HEAPS];
    private final int[] heapA = new int[MOST_HEAPS];
    private final int[] heapB = new int[MOST_HEAPS];
    // Kept up to date because a search looks at every heap for each of up to 4096 colourings.
    private final int[] heapBits = new int[MOST_HEAPS];

    private int stepCount = 0;
    private final int[] stepX = new int[MOST_STEPS];
    private final int[] stepY = new int[MOST_STEPS];

    private long asked = 0;

    public TwoColours() {
        orderByNumbers();
    }

    // ---- things and heaps

    public int things(int n) {
        if (n < 1 || n > MOST_THINGS) {
            return BAD;
        }
        int before = thingCount;
        thingCount = n;
        heldThings = 0;
        heldColours = 0;
        heapCount = 0;
        orderByNumbers();
        return before;
    }

    public int swap(int i, int j) {
        if (!isThing(i) || !isThing(j)) {
            return BAD;
        }
        int atI = thingAt[i];
        int atJ = thingAt[j];
        putAt(i, atJ);
        putAt(j, atI);
        for (int heap = 0; heap < heapCount; heap++) {
            heapBits[heap] = thingsOf(heapKind[heap], heapA[heap], heapB[heap]);
        }
        return 1;
    }

    public int second(int i) {
        return isThing(i) ? thingAt[i] : BAD;
    }

    public int heap(int kind, int a, int b) {
        if (!canBeHeap(kind, a, b)) {
            return BAD;
        }
        if (heapCount >= MOST_HEAPS) {
            return FULL;
        }
        int heap = heapCount;
        heapKind[heap] = kind;
        heapA[heap] = a;
        heapB[heap] = b;
        heapBits[heap] = thingsOf(kind, a, b);
        heapCount++;
        return heap;
    }

    public int drop() {
        if (heapCount == 0) {
            return STATE;
        }
        heapCount--;
        return heapCount;
    }

    public int has(int heap, int thing) {
        if (!isHeap(heap) || !isThing(thing)) {
            return BAD;
        }
        asked += traceOf(heapKind[heap]);
        return bitOf(heapBits[heap], thing);
    }

    public int bits(int heap) {
        return isHeap(heap) ? heapBits[heap] : BAD;
    }

    public int hold(int thing, int colour) {
        if (!isThing(thing) || colour < HELD_TO_NONE || colour > 1) {
            return BAD_HOLD;
        }
        int before = isHeld(thing) ? bitOf(heldColours, thing) : HELD_TO_NONE;
        int bit = 1 << thing;
        heldThings = colour == HELD_TO_NONE ? heldThings & ~bit : heldThings | bit;
        heldColours = colour == 1 ? heldColours | bit : heldColours & ~bit;
        return before;
    }

    private void orderByNumbers() {
        for (int thing = 0; thing < MOST_THINGS; thing++) {
            putAt(thing, thing);
        }
    }

    private void putAt(int place, int thing) {
        thingAt[place] = thing;
        placeOf[thing] = place;
    }

    /** Also whether there is such a place: places and things have the same numbers. */
    private boolean isThing(int number) {
        return number >= 0 && number < thingCount;
    }

    private boolean isHeap(int number) {
        return number >= 0 && number < heapCount;
    }

    private boolean isHeld(int thing) {
        return bitOf(heldThings, thing) == 1;
    }

    private boolean canBeHeap(int kind, int a, int b) {
        switch (kind) {
            case FREE:
                return isColouring(a);
            case SPAN:
            case OTHER:
                return isThing(a) && isThing(b) && a <= b;
            case EACH:
                return isThing(a) && b >= 1 && b <= GREATEST_EACH;
            default:
                return false;
        }
    }

    private int thingsOf(int kind, int a, int b) {
        int things = 0;
        for (int thing = 0; thing < thingCount; thing++) {
            if (belongs(thing, kind, a, b)) {
                things |= 1 << thing;
            }
        }
        return things;
    }

    private boolean belongs(int thing, int kind, int a, int b) {
        switch (kind) {
            case SPAN:
                return isWithin(thing, a, b);
            case OTHER:
                return isWithin(placeOf[thing], a, b);
            case EACH:
                return thing >= a && b > 0 && (thing - a) % b == 0;
            default:
                return bitOf(a, thing) == 1;
        }
    }

    private static boolean isWithin(int place, int a, int b) {
        return place >= a && place <= b;
    }

    private static int traceOf(int kind) {
        switch (kind) {
            case SPAN:
                return 10;
            case OTHER:
                // OTHER asks SPAN as well.
                return 100 + 10;
            case EACH:
                return 1000;
            default:
                return 1;
        }
    }

    private static int bitOf(int bits, int thing) {
        return bits >> thing & 1;
    }

    // ---- colourings

    public int off(int colouring, int heap) {
        return isColouring(colouring) && isHeap(heap) ? offOf(colouring, heap) : BAD;
    }

    public int worst(int colouring) {
        return isColouring(colouring) ? worstOf(colouring) : BAD;
    }

    public int squares(int colouring) {
        return isColouring(colouring) ? squaresOf(colouring) : BAD;
    }

    public int times() {
        int most = 0;
        for (int thing = 0; thing < thingCount; thing++) {
            int heaps = 0;
            for (int heap = 0; heap < heapCount; heap++) {
                heaps += bitOf(heapBits[heap], thing);
            }
            most = Math.max(most, heaps);
        }
        return most;
    }

    public int least() {
        return worstOf(firstLeast());
    }

    public int first() {
        return firstLeast();
    }

    public int many() {
        int first = firstLeast();
        int least = worstOf(first);
        int found = 0;
        for (int colouring = first; colouring < colouringCount(); colouring++) {
            if (keepsToHeld(colouring) && worstOf(colouring) == least) {
                found++;
            }
        }
        return found;
    }

    public int fewest() {
        int fewest = squaresOf(heldColours);
        for (int colouring = heldColours + 1; colouring < colouringCount(); colouring++) {
            if (keepsToHeld(colouring)) {
                fewest = Math.min(fewest, squaresOf(colouring));
            }
        }
        return fewest;
    }

    public int turns() {
        int colouring = 0;
        for (int thing = 1; thing < thingCount; thing += 2) {
            colouring |= 1 << thing;
        }
        return colouring;
    }

    public int pairs() {
        Arrays.fill(colourByPairs, UNCOLOURED);
        int colouring = 0;
        for (int thing = 0; thing < thingCount; thing++) {
            if (colourByPairs[thing] == UNCOLOURED) {
                colourByPairs[thing] = 0;
                colourAlongPairs(thing, true);
                colourAlongPairs(thing, false);
            }
            colouring |= colourByPairs[thing] << thing;
        }
        return colouring;
    }

    public int come() {
        int colouring = 0;
        for (int thing = 0; thing < thingCount; thing++) {
            colouring |= colourOnComing(thing, colouring) << thing;
        }
        return colouring;
    }

    private int colouringCount() {
        return 1 << thingCount;
    }

    private boolean isColouring(int number) {
        return number >= 0 && number < colouringCount();
    }

    private boolean keepsToHeld(int colouring) {
        return (colouring & heldThings) == heldColours;
    }

    /** How many more of the things have colour 1 than colour 0. */
    private static int leaning(int things, int colouring) {
        return 2 * Integer.bitCount(things & colouring) - Integer.bitCount(things);
    }

    private int offOf(int colouring, int heap) {
        return Math.abs(leaning(heapBits[heap], colouring));
    }

    private int worstOf(int colouring) {
        int worst = 0;
        for (int heap = 0; heap < heapCount; heap++) {
            worst = Math.max(worst, offOf(colouring, heap));
        }
        return worst;
    }

    private int squaresOf(int colouring) {
        int sum = 0;
        for (int heap = 0; heap < heapCount; heap++) {
            int off = offOf(colouring, heap);
            sum += off * off;
        }
        return sum;
    }

    /** Starts at heldColours because that is the least colouring which keeps to what is held. */
    private int firstLeast() {
        int first = heldColours;
        int least = worstOf(first);
        for (int colouring = first + 1; colouring < colouringCount(); colouring++) {
            if (keepsToHeld(colouring)) {
                int worst = worstOf(colouring);
                if (worst < least) {
                    least = worst;
                    first = colouring;
                }
            }
        }
        return first;
    }

    /**
     * Things that hang together by pairs stand in a row or a ring in which pairs of the one order
     * and of the other alternate, so two walks, one begun by each order, reach them all.
     */
    private void colourAlongPairs(int start, boolean startInFirstOrder) {
        int thing = start;
        boolean inFirstOrder = startInFirstOrder;
        for (int walked = 0; walked < thingCount; walked++) {
            int partner = inFirstOrder ? partnerInFirstOrder(thing) : partnerInSecondOrder(thing);
            if (partner == NONE || colourByPairs[partner] != UNCOLOURED) {
                return;
            }
            colourByPairs[partner] = 1 - colourByPairs[thing];
            thing = partner;
            inFirstOrder = !inFirstOrder;
        }
    }

    private int partnerInFirstOrder(int thing) {
        int place = thing ^ 1;
        return isThing(place) ? place : NONE;
    }

    private int partnerInSecondOrder(int thing) {
        int place = placeOf[thing] ^ 1;
        return isThing(place) ? thingAt[place] : NONE;
    }

    /** Only the things of lesser numbers have come by then, held or not. */
    private int colourOnComing(int thing, int colouring) {
        if (isHeld(thing)) {
            return bitOf(heldColours, thing);
        }
        int cameAhead = (1 << thing) - 1;
        int sum = 0;
        for (int heap = 0; heap < heapCount; heap++) {
            if (bitOf(heapBits[heap], thing) == 1) {
                sum += leaning(heapBits[heap] & cameAhead, colouring);
            }
        }
        return sum < 0 ? 1 : 0;
    }

    // ---- steps

    public int step(int x, int y) {
        if (!isStepLength(x) || !isStepLength(y)) {
            return BAD;
        }
        if (stepCount >= MOST_STEPS) {
            return FULL;
        }
        int step = stepCount;
        stepX[step] = x;
        stepY[step] = y;
        stepCount++;
        return step;
    }

    public int clear() {
        int before = stepCount;
        stepCount = 0;
        return before;
    }

    public int stray(int signs) {
        return signs >= 0 && signs < signingCount() ? strayOf(signs) : BAD;
    }

    public int straight(int what) {
        switch (what) {
            case 0:
                return strayOf(straightest());
            case 1:
                return straightest();
            case 2:
                return nearest();
            default:
                return BAD;
        }
    }

    public int count(int what) {
        switch (what) {
            case 0:
                return thingCount;
            case 1:
                return heapCount;
            case 2:
                return stepCount;
            case 3:
                return Integer.bitCount(heldThings);
            default:
                return BAD;
        }
    }

    public long trace() {
        return asked;
    }

    private static boolean isStepLength(int length) {
        return length >= -LONGEST_STEP && length <= LONGEST_STEP;
    }

    private int signingCount() {
        return 1 << stepCount;
    }

    private static int greaterSize(int x, int y) {
        return Math.max(Math.abs(x), Math.abs(y));
    }

    private int strayOf(int signs) {
        int x = 0;
        int y = 0;
        int stray = 0;
        for (int step = 0; step < stepCount; step++) {
            int way = bitOf(signs, step) == 0 ? 1 : -1;
            x += way * stepX[step];
            y += way * stepY[step];
            stray = Math.max(stray, greaterSize(x, y));
        }
        return stray;
    }

    private int straightest() {
        int signs = 0;
        int least = strayOf(signs);
        for (int other = 1; other < signingCount(); other++) {
            int stray = strayOf(other);
            if (stray < least) {
                least = stray;
                signs = other;
            }
        }
        return signs;
    }

    private int nearest() {
        int x = 0;
        int y = 0;
        int signs = 0;
        for (int step = 0; step < stepCount; step++) {
            int way = 1;
            if (greaterSize(x - stepX[step], y - stepY[step])
                    < greaterSize(x + stepX[step], y + stepY[step])) {
                way = -1;
                signs |= 1 << step;
            }
            x += way * stepX[step];
            y += way * stepY[step];
        }
        return signs;
    }
}
