import java.util.Arrays;

/**
 * A die study of coins: specimens with their dies and the wear of these dies, die links, relative
 * chronology by wear, and estimates of the number of dies.
 *
 * <p>What a study remembers is its specimens and its history alone. Couples, link graph and
 * chronology are worked out anew by each call that asks for them, in rows that the constructor
 * makes once: so they can never be out of date, and no call makes an object.
 */
public final class DieStudy {
    public static final int INVALID_ARGUMENT = -1;
    public static final int LIMIT_REACHED = -2;
    public static final int NOT_FOUND = -3;
    public static final int CONTRADICTION = -4;

    private static final int OBVERSE = 0;
    private static final int REVERSE = 1;
    private static final int SIDES = 2;
    private static final int DIES = 10;
    private static final int MAX_WEAR = 5;
    private static final int MAX_SPECIMENS = 24;
    private static final int MAX_UNDO = 5;
    private static final int THOUSAND = 1000;
    private static final int NONE = -1;

    private final Specimens specimens;
    private final History history;
    private final Couples couples;
    private final LinkGraph graph;
    private final Chronology chronology;

    public DieStudy() {
        specimens = new Specimens();
        history = new History();
        couples = new Couples();
        graph = new LinkGraph();
        chronology = new Chronology();
    }

    // ---- specimens

    public int addSpecimen(int obverse, int reverse, int obverseWear, int reverseWear) {
        if (!isDie(obverse) || !isDie(reverse) || !isWear(obverseWear) || !isWear(reverseWear)) {
            return INVALID_ARGUMENT;
        }
        if (specimens.count >= MAX_SPECIMENS) {
            return LIMIT_REACHED;
        }
        history.save(specimens);
        int added = specimens.count;
        specimens.count = added + 1;
        specimens.putDie(added, OBVERSE, obverse);
        specimens.putDie(added, REVERSE, reverse);
        specimens.putWear(added, OBVERSE, obverseWear);
        specimens.putWear(added, REVERSE, reverseWear);
        return added;
    }

    public int removeSpecimen(int specimen) {
        if (!specimens.has(specimen)) {
            return INVALID_ARGUMENT;
        }
        history.save(specimens);
        specimens.close(specimen);
        return specimens.count;
    }

    public int setWear(int specimen, int side, int wear) {
        if (!specimens.has(specimen) || !isSide(side) || !isWear(wear)) {
            return INVALID_ARGUMENT;
        }
        history.save(specimens);
        int previous = specimens.wear(specimen, side);
        specimens.putWear(specimen, side, wear);
        return previous;
    }

    public int mergeDies(int side, int from, int to) {
        if (!isSide(side) || !isDie(from) || !isDie(to)) {
            return INVALID_ARGUMENT;
        }
        if (specimens.struckWith(side, from) == 0) {
            return NOT_FOUND;
        }
        history.save(specimens);
        return from == to ? 0 : specimens.replaceDie(side, from, to);
    }

    public int specimenCount() {
        return specimens.count;
    }

    public int dieOf(int specimen, int side) {
        if (!specimens.has(specimen) || !isSide(side)) {
            return INVALID_ARGUMENT;
        }
        return specimens.die(specimen, side);
    }

    // ---- dies

    public int dieCount(int side) {
        return isSide(side) ? specimens.knownDies(side) : INVALID_ARGUMENT;
    }

    public int frequency(int side, int die) {
        if (!isSide(side) || !isDie(die)) {
            return INVALID_ARGUMENT;
        }
        return specimens.struckWith(side, die);
    }

    public int meanWearBits(int side, int die) {
        if (!isSide(side) || !isDie(die)) {
            return INVALID_ARGUMENT;
        }
        int struck = specimens.struckWith(side, die);
        if (struck == 0) {
            return NOT_FOUND;
        }
        return bitsOf((float) specimens.wearSum(side, die) / (float) struck);
    }

    // ---- links

    public int coupleCount() {
        couples.list(specimens);
        return couples.count;
    }

    public int coupleAt(int couple) {
        couples.list(specimens);
        int error = errorOfPlace(couple);
        if (error != 0) {
            return error;
        }
        return DIES * couples.die[OBVERSE][couple] + couples.die[REVERSE][couple];
    }

    public int componentCount() {
        couples.list(specimens);
        graph.connect(couples, NONE);
        return graph.components;
    }

    public int componentSize(int side, int die) {
        if (!isSide(side) || !isDie(die)) {
            return INVALID_ARGUMENT;
        }
        couples.list(specimens);
        graph.connect(couples, NONE);
        int size = graph.diesAround(side, die);
        return size == 0 ? NOT_FOUND : size;
    }

    public int cycleRank() {
        couples.list(specimens);
        graph.connect(couples, NONE);
        return couples.count - graph.dies + graph.components;
    }

    public int bridgeCount() {
        couples.list(specimens);
        int bridges = 0;
        for (int couple = 0; couple < couples.count; couple++) {
            if (graph.fallsApartWithout(couples, couple)) {
                bridges++;
            }
        }
        return bridges;
    }

    public int isBridge(int couple) {
        couples.list(specimens);
        int error = errorOfPlace(couple);
        if (error != 0) {
            return error;
        }
        return graph.fallsApartWithout(couples, couple) ? 1 : 0;
    }

    // ---- chronology

    public int compareCouples(int first, int second) {
        couples.list(specimens);
        if (!couples.has(first) || !couples.has(second) || first == second) {
            return INVALID_ARGUMENT;
        }
        if (couples.isEarlier(first, second)) {
            return 1;
        }
        return couples.isEarlier(second, first) ? 2 : 0;
    }

    public int isConsistent() {
        couples.list(specimens);
        return chronology.arrange(couples) ? 1 : 0;
    }

    public int coupleInOrder(int place) {
        couples.list(specimens);
        int error = errorOfPlace(place);
        if (error != 0) {
            return error;
        }
        return chronology.arrange(couples) ? chronology.order[place] : CONTRADICTION;
    }

    public int generation(int couple) {
        couples.list(specimens);
        int error = errorOfPlace(couple);
        if (error != 0) {
            return error;
        }
        return chronology.arrange(couples) ? chronology.depth[couple] : CONTRADICTION;
    }

    // ---- estimates

    public int singletons(int side) {
        return isSide(side) ? specimens.diesStruckOnce(side) : INVALID_ARGUMENT;
    }

    public int coverageEstimate(int side) {
        if (!isSide(side)) {
            return INVALID_ARGUMENT;
        }
        int n = specimens.count;
        int covered = n - specimens.diesStruckOnce(side);
        // d / (1 - s / n) is n * d / (n - s): whole numbers keep the value exact
        return covered > 0 ? THOUSAND * n * specimens.knownDies(side) / covered : NOT_FOUND;
    }

    public int frequencyEstimate(int side) {
        if (!isSide(side)) {
            return INVALID_ARGUMENT;
        }
        int n = specimens.count;
        int d = specimens.knownDies(side);
        if (n < 2 || n == d) {
            return NOT_FOUND;
        }
        int divisor = divisorOfFrequencyEstimate(n, d);
        // at most 24 * 10 * 1000 * 1000, which an int holds
        return divisor > 0 ? n * d * THOUSAND * THOUSAND / divisor : NOT_FOUND;
    }

    // ---- history

    public int undo() {
        if (history.saved == 0) {
            return NOT_FOUND;
        }
        history.restore(specimens);
        return history.saved;
    }

    private static boolean isSide(int side) {
        return side >= 0 && side < SIDES;
    }

    private static boolean isDie(int die) {
        return die >= 0 && die < DIES;
    }

    private static boolean isWear(int wear) {
        return wear >= 0 && wear <= MAX_WEAR;
    }

    /** The error of a couple's number or of a place in their order, 0 if there is none. */
    private int errorOfPlace(int place) {
        if (place < 0) {
            return INVALID_ARGUMENT;
        }
        return couples.has(place) ? 0 : NOT_FOUND;
    }

    private static int divisorOfFrequencyEstimate(int n, int d) {
        if (n < 2 * d) {
            return 1124 * n - 1016 * d;
        }
        if (n < 3 * d) {
            return 1069 * n - 843 * d;
        }
        return 1016 * n - 197 * d;
    }

    /**
     * The bits of a mean wear. LANGUAGE.md leaves out Float.floatToIntBits; doubling, halving and
     * taking 1 away are exact here, so the parts of the float come out as they stand in it.
     */
    private static int bitsOf(float mean) {
        if (mean <= 0.0f) {
            return 0;
        }
        float significand = mean;
        int exponent = 127;
        // a mean wear lies between 1/24 and 5, so that eight steps are more than enough
        for (int step = 0; step < 8 && significand >= 2.0f; step++) {
            significand = significand / 2.0f;
            exponent++;
        }
        for (int step = 0; step < 8 && significand < 1.0f; step++) {
            significand = significand * 2.0f;
            exponent--;
        }
        return (exponent << 23) + (int) ((significand - 1.0f) * 8388608.0f);
    }

    /**
     * The specimens, in one row of numbers, so that the history can keep them by one copy. Callers
     * have tested the numbers of specimens, sides and dies that they hand over.
     */
    private static final class Specimens {
        /** A specimen's cells: its two dies by side, then the wear of these by side. */
        private static final int CELLS_EACH = 2 * SIDES;
        private static final int CELLS = MAX_SPECIMENS * CELLS_EACH;

        private final int[] cells = new int[CELLS];
        private int count = 0;

        private boolean has(int specimen) {
            return specimen >= 0 && specimen < count;
        }

        private int die(int specimen, int side) {
            return cells[specimen * CELLS_EACH + side];
        }

        private void putDie(int specimen, int side, int die) {
            cells[specimen * CELLS_EACH + side] = die;
        }

        private int wear(int specimen, int side) {
            return cells[specimen * CELLS_EACH + SIDES + side];
        }

        private void putWear(int specimen, int side, int wear) {
            cells[specimen * CELLS_EACH + SIDES + side] = wear;
        }

        /** Takes a specimen out and moves those behind it down. */
        private void close(int specimen) {
            int to = specimen * CELLS_EACH;
            int from = to + CELLS_EACH;
            System.arraycopy(cells, from, cells, to, count * CELLS_EACH - from);
            count--;
        }

        private int replaceDie(int side, int from, int to) {
            int replaced = 0;
            for (int specimen = 0; specimen < count; specimen++) {
                if (die(specimen, side) == from) {
                    putDie(specimen, side, to);
                    replaced++;
                }
            }
            return replaced;
        }

        private int struckWith(int side, int die) {
            int struck = 0;
            for (int specimen = 0; specimen < count; specimen++) {
                if (die(specimen, side) == die) {
                    struck++;
                }
            }
            return struck;
        }

        private int wearSum(int side, int die) {
            int sum = 0;
            for (int specimen = 0; specimen < count; specimen++) {
                if (die(specimen, side) == die) {
                    sum += wear(specimen, side);
                }
            }
            return sum;
        }

        private int knownDies(int side) {
            int known = 0;
            for (int die = 0; die < DIES; die++) {
                if (struckWith(side, die) > 0) {
                    known++;
                }
            }
            return known;
        }

        private int diesStruckOnce(int side) {
            int once = 0;
            for (int die = 0; die < DIES; die++) {
                if (struckWith(side, die) == 1) {
                    once++;
                }
            }
            return once;
        }
    }

    /** The specimens as they were before each of the last edits: a ring, the oldest of which goes first. */
    private static final class History {
        private final int[] cells = new int[MAX_UNDO * Specimens.CELLS];
        private final int[] counts = new int[MAX_UNDO];
        private int saved = 0;
        private int next = 0;

        private void save(Specimens specimens) {
            System.arraycopy(specimens.cells, 0, cells, next * Specimens.CELLS, Specimens.CELLS);
            counts[next] = specimens.count;
            next = next + 1 < MAX_UNDO ? next + 1 : 0;
            if (saved < MAX_UNDO) {
                saved++;
            }
        }

        /** Brings back what was saved last; the caller has seen that something is saved. */
        private void restore(Specimens specimens) {
            next = next > 0 ? next - 1 : MAX_UNDO - 1;
            System.arraycopy(cells, next * Specimens.CELLS, specimens.cells, 0, Specimens.CELLS);
            specimens.count = counts[next];
            saved--;
        }
    }

    /** The list of the couples, with the least and the greatest wear of their dies. */
    private static final class Couples {
        private static final int PAIRS = DIES * DIES;

        private final int[] numberOfPair = new int[PAIRS];
        private final int[][] die = new int[SIDES][MAX_SPECIMENS];
        private final int[][] leastWear = new int[SIDES][MAX_SPECIMENS];
        private final int[][] greatestWear = new int[SIDES][MAX_SPECIMENS];
        private int count = 0;

        private boolean has(int couple) {
            return couple >= 0 && couple < count;
        }

        private void list(Specimens specimens) {
            markPairs(specimens);
            numberPairs();
            for (int specimen = 0; specimen < specimens.count; specimen++) {
                int couple = numberOfPair[pairOf(specimens, specimen)];
                if (has(couple)) {
                    spanWear(couple, OBVERSE, specimens.wear(specimen, OBVERSE));
                    spanWear(couple, REVERSE, specimens.wear(specimen, REVERSE));
                }
            }
        }

        private static int pairOf(Specimens specimens, int specimen) {
            return DIES * specimens.die(specimen, OBVERSE) + specimens.die(specimen, REVERSE);
        }

        /** Gives each pair that is a couple some number, so that it can be told from the others. */
        private void markPairs(Specimens specimens) {
            Arrays.fill(numberOfPair, NONE);
            for (int specimen = 0; specimen < specimens.count; specimen++) {
                numberOfPair[pairOf(specimens, specimen)] = 0;
            }
        }

        private void numberPairs() {
            count = 0;
            for (int pair = 0; pair < PAIRS && count < MAX_SPECIMENS; pair++) {
                if (numberOfPair[pair] != NONE) {
                    numberOfPair[pair] = count;
                    enter(pair / DIES, pair % DIES);
                }
            }
        }

        private void enter(int obverse, int reverse) {
            die[OBVERSE][count] = obverse;
            die[REVERSE][count] = reverse;
            for (int side = 0; side < SIDES; side++) {
                leastWear[side][count] = MAX_WEAR;
                greatestWear[side][count] = 0;
            }
            count++;
        }

        private void spanWear(int couple, int side, int wear) {
            leastWear[side][couple] = Math.min(leastWear[side][couple], wear);
            greatestWear[side][couple] = Math.max(greatestWear[side][couple], wear);
        }

        /** Whether the first of two different couples is earlier by a die that they share. */
        private boolean isEarlier(int first, int second) {
            return isEarlierBy(OBVERSE, first, second) || isEarlierBy(REVERSE, first, second);
        }

        private boolean isEarlierBy(int side, int first, int second) {
            return die[side][first] == die[side][second]
                    && greatestWear[side][first] <= leastWear[side][second]
                    && leastWear[side][first] < greatestWear[side][second];
        }
    }

    /** The link graph: its vertices are the dies of both sides, those of the reverse behind the others. */
    private static final class LinkGraph {
        private static final int VERTICES = SIDES * DIES;

        /** The component of each vertex, told by one of its vertices; NONE for a die that is not known. */
        private final int[] component = new int[VERTICES];
        private int dies = 0;
        private int components = 0;

        private static int vertexOf(int side, int die) {
            return side * DIES + die;
        }

        /** Finds the components of the graph without one of its couples, or of all of it for NONE. */
        private void connect(Couples couples, int without) {
            enterDies(couples);
            components = dies;
            for (int couple = 0; couple < couples.count; couple++) {
                if (couple != without) {
                    join(obverseOf(couples, couple), reverseOf(couples, couple));
                }
            }
        }

        private static int obverseOf(Couples couples, int couple) {
            return vertexOf(OBVERSE, couples.die[OBVERSE][couple]);
        }

        private static int reverseOf(Couples couples, int couple) {
            return vertexOf(REVERSE, couples.die[REVERSE][couple]);
        }

        private void enterDies(Couples couples) {
            Arrays.fill(component, NONE);
            dies = 0;
            for (int couple = 0; couple < couples.count; couple++) {
                enterDie(obverseOf(couples, couple));
                enterDie(reverseOf(couples, couple));
            }
        }

        private void enterDie(int vertex) {
            if (component[vertex] == NONE) {
                component[vertex] = vertex;
                dies++;
            }
        }

        private void join(int one, int other) {
            int stays = component[one];
            int goes = component[other];
            if (stays == goes) {
                return;
            }
            for (int vertex = 0; vertex < VERTICES; vertex++) {
                if (component[vertex] == goes) {
                    component[vertex] = stays;
                }
            }
            components--;
        }

        /** A couple is a bridge if its dies are in two components as soon as it is left out. */
        private boolean fallsApartWithout(Couples couples, int couple) {
            connect(couples, couple);
            return component[obverseOf(couples, couple)] != component[reverseOf(couples, couple)];
        }

        /** The number of dies in the component of a die, 0 if the die is not known. */
        private int diesAround(int side, int die) {
            int around = component[vertexOf(side, die)];
            if (around == NONE) {
                return 0;
            }
            int found = 0;
            for (int vertex = 0; vertex < VERTICES; vertex++) {
                if (component[vertex] == around) {
                    found++;
                }
            }
            return found;
        }
    }

    /** The chronological order of the couples, and their generations. */
    private static final class Chronology {
        private static final int PLACED = -1;

        private final int[] order = new int[MAX_SPECIMENS];
        private final int[] depth = new int[MAX_SPECIMENS];
        /** For each couple the number of earlier ones that are not placed yet, or PLACED. */
        private final int[] waitsFor = new int[MAX_SPECIMENS];

        /** Makes order and generations; false if the chronology is not consistent and there are none. */
        private boolean arrange(Couples couples) {
            countEarlier(couples);
            for (int place = 0; place < couples.count; place++) {
                int couple = lowestThatWaitsForNone(couples.count);
                if (couple == NONE) {
                    return false;
                }
                order[place] = couple;
                waitsFor[couple] = PLACED;
                releaseLater(couples, couple);
            }
            return true;
        }

        private void countEarlier(Couples couples) {
            Arrays.fill(waitsFor, 0);
            Arrays.fill(depth, 0);
            for (int later = 0; later < couples.count; later++) {
                for (int couple = 0; couple < couples.count; couple++) {
                    if (couple != later && couples.isEarlier(couple, later)) {
                        waitsFor[later]++;
                    }
                }
            }
        }

        private int lowestThatWaitsForNone(int count) {
            for (int couple = 0; couple < count; couple++) {
                if (waitsFor[couple] == 0) {
                    return couple;
                }
            }
            return NONE;
        }

        /** All that is earlier than a couple is placed before it, so its depth is final when it is placed. */
        private void releaseLater(Couples couples, int placed) {
            for (int couple = 0; couple < couples.count; couple++) {
                if (waitsFor[couple] != PLACED && couples.isEarlier(placed, couple)) {
                    waitsFor[couple]--;
                    depth[couple] = Math.max(depth[couple], depth[placed] + 1);
                }
            }
        }
    }
}
