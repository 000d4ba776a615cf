/** The boundary cases of the document's 'Description', but for those of the edits. */
final class BoundariesOfDescription {
    private static final String ERRORS_IN_ORDER = "If several errors apply to a call, INVALID_ARGUMENT is returned"
            + " rather than LIMIT_REACHED, LIMIT_REACHED rather than NOT_FOUND, and NOT_FOUND rather than CONTRADICTION.";

    private final Due due;
    private final Sentences document;

    BoundariesOfDescription(Due due, Sentences document) {
        this.due = due;
        this.document = document;
    }

    void run() {
        specimens();
        dies();
        wear();
        knownDies();
        sides();
        couples();
        components();
        bridges();
        cycleRank();
        earlierByASharedDie();
        consistent();
        order();
        generations();
        eachSideByItself();
        coverage();
        frequencyEstimateExists();
        frequencyEstimateFormulas();
        roundedDown();
        invalidRatherThanLimit();
        invalidRatherThanNotFound();
        notFoundRatherThanContradiction();
        refusedEdits();
    }

    private void specimens() {
        document.hold("Description", "There are at most 24 specimens, numbered from 0."
                + " A specimen is a coin that was struck with an obverse die and a reverse die.");
        DieStudy x = Studies.ofOneCouple(23);
        due.is("the 24th", x.addSpecimen(1, 2, 0, 0), 23);
        due.is("its obverse", x.dieOf(23, 0), 1);
        due.is("its reverse", x.dieOf(23, 1), 2);
        due.is("a 25th", x.addSpecimen(1, 2, 0, 0), -2);
        due.is("number 24", x.dieOf(24, 0), -1);
        due.is("number -1", x.dieOf(-1, 0), -1);
        due.is("number 0", x.dieOf(0, 0), 7);
    }

    private void dies() {
        document.hold("Description", "Each side has the dies 0 to 9.");
        for (int side = 0; side < 2; side++) {
            DieStudy x = Studies.of(0, 11, 22, 33, 44, 55, 66, 77, 88, 99);
            due.is("all dies", x.dieCount(side), 10);
            due.is("die 0", x.frequency(side, 0), 1);
            due.is("die 9", x.frequency(side, 9), 1);
            due.is("die 10", x.frequency(side, 10), -1);
            due.is("die -1", x.frequency(side, -1), -1);
        }
    }

    private void wear() {
        document.hold("Description", "A specimen also tells the wear of its obverse die and the wear of its reverse die"
                + " at the time when it was struck, each from 0 (fresh) to 5.");
        DieStudy x = new DieStudy();
        due.is("0 and 5", x.addSpecimen(1, 1, 0, 5), 0);
        due.is("5 and 0", x.addSpecimen(1, 2, 5, 0), 1);
        due.is("6 and 0", x.addSpecimen(1, 2, 6, 0), -1);
        due.is("0 and -1", x.addSpecimen(1, 2, 0, -1), -1);
        due.is("obverse wear 0", x.setWear(0, 0, 5), 0);
        due.is("reverse wear 5", x.setWear(0, 1, 0), 5);
    }

    private void knownDies() {
        document.hold("Description", "A die is known if some specimen was struck with it.");
        DieStudy x = Studies.of(13, 13);
        due.is("known", x.componentSize(0, 1), 2);
        due.is("not known", x.componentSize(0, 2), -3);
        x.removeSpecimen(0);
        due.is("one specimen is left", x.mergeDies(0, 1, 1), 0);
        x.removeSpecimen(0);
        due.is("none is left: mean wear", x.meanWearBits(0, 1), -3);
        due.is("none is left: merging with itself", x.mergeDies(0, 1, 1), -3);
        due.is("none is left: dies", x.dieCount(0), 0);
    }

    private void sides() {
        document.hold("Description", "Sides have numbers: 0 for the obverse, 1 for the reverse."
                + " A die is named by its side and its number.");
        DieStudy x = Studies.of(12, 21);
        due.is("obverse", x.dieOf(0, 0), 1);
        due.is("reverse", x.dieOf(0, 1), 2);
        due.is("side -1", x.dieOf(0, -1), -1);
        due.is("side 2", x.dieOf(0, 2), -1);
        due.is("the same number on both sides is no link", x.componentCount(), 2);
    }

    private void couples() {
        document.hold("Description", "A couple is a pair of an obverse die and a reverse die with which at least one"
                + " specimen was struck.");
        DieStudy x = Studies.of(12, 12);
        due.is("two specimens", x.coupleCount(), 1);
        x.removeSpecimen(0);
        due.is("one specimen", x.coupleCount(), 1);
        x.removeSpecimen(0);
        due.is("no specimen", x.coupleCount(), 0);
        document.hold("Description", "The couples are listed by ascending obverse die, and with the same obverse die"
                + " by ascending reverse die; they are numbered from 0 in this list.");
        DieStudy y = Studies.of(90, 10, 9, 1, 0, 99);
        int[] list = {0, 1, 9, 10, 90, 99};
        for (int i = 0; i < list.length; i++) {
            due.is("couple " + i, y.coupleAt(i), list[i]);
        }
        due.is("couple 6", y.coupleAt(6), -3);
        due.is("couple -1", y.coupleAt(-1), -1);
    }

    private void components() {
        document.hold("Description", "The link graph has the known dies as vertices and the couples as edges."
                + " Its components are the sets of dies that are connected by couples, directly or through others.");
        DieStudy x = Studies.of(0, 1, 12, 55);
        due.is("not connected", x.componentCount(), 3);
        x.addSpecimen(1, 1, 0, 0);
        due.is("connected through others", x.componentCount(), 2);
        due.is("first of these", x.componentSize(1, 0), 5);
        due.is("last of these", x.componentSize(1, 2), 5);
        due.is("directly", x.componentSize(1, 5), 2);
        due.is("a die that is not known is no vertex", x.componentSize(1, 6), -3);
    }

    private void bridges() {
        document.hold("Description", "A couple is a bridge if the graph without this edge (its two dies remain as"
                + " vertices) has more components.");
        due.is("both dies remain alone", Studies.of(0).isBridge(0), 1);
        due.is("one die remains alone", Studies.of(0, 1).isBridge(1), 1);
        due.is("an edge, not one of its specimens", Studies.of(0, 0).isBridge(0), 1);
        due.is("in a ring", Studies.of(0, 1, 10, 11).isBridge(0), 0);
        due.is("between two rings", Studies.of(0, 1, 10, 11, 12, 22, 23, 32, 33).isBridge(4), 1);
    }

    private void cycleRank() {
        document.hold("Description", "The cycle rank of the graph is the number of couples, minus the number of known"
                + " dies, plus the number of components.");
        due.is("0 - 0 + 0", new DieStudy().cycleRank(), 0);
        due.is("1 - 2 + 1", Studies.of(0, 0).cycleRank(), 0);
        due.is("4 - 4 + 1", Studies.of(0, 1, 10, 11).cycleRank(), 1);
        due.is("24 - 10 + 1", Studies.toAndFro().cycleRank(), 15);
        due.is("5 - 6 + 2", Studies.of(0, 1, 10, 11, 99).cycleRank(), 1);
    }

    /** Couples 0 and 1 of one obverse die, with these spans of its wear. */
    private static DieStudy spans(int leastA, int greatestA, int leastB, int greatestB) {
        DieStudy x = new DieStudy();
        x.addSpecimen(3, 0, greatestA, 0);
        x.addSpecimen(3, 1, leastB, 0);
        x.addSpecimen(3, 0, leastA, 0);
        x.addSpecimen(3, 1, greatestB, 0);
        return x;
    }

    private void earlierByASharedDie() {
        document.hold("Description", "Two different couples that share a die are comparable by this die. Couple A is"
                + " earlier than couple B by a die that they share if the greatest wear of this die among the specimens"
                + " of A is at most the least wear of this die among the specimens of B, and the least wear of this die"
                + " among the specimens of A is less than the greatest wear of this die among the specimens of B."
                + " (Two different couples share at most one die.)");
        due.is("greatest of A below least of B", spans(1, 2, 3, 4).compareCouples(0, 1), 1);
        due.is("greatest of A is least of B", spans(1, 3, 3, 4).compareCouples(0, 1), 1);
        due.is("greatest of A above least of B", spans(1, 4, 3, 4).compareCouples(0, 1), 0);
        due.is("least of A below greatest of B alone", spans(2, 3, 3, 3).compareCouples(0, 1), 1);
        due.is("least of A below greatest of B alone", spans(3, 3, 3, 4).compareCouples(0, 1), 1);
        due.is("least of A is greatest of B", spans(3, 3, 3, 3).compareCouples(0, 1), 0);
        due.is("least of A is greatest of B, and they differ", spans(3, 4, 2, 3).compareCouples(0, 1), 2);
        due.is("at the ends of wear", spans(0, 0, 5, 5).compareCouples(0, 1), 1);
        due.is("A fresh, B from fresh on", spans(0, 0, 0, 1).compareCouples(0, 1), 1);
        due.is("A up to the greatest wear, B at it", spans(4, 5, 5, 5).compareCouples(0, 1), 1);
        due.is("A at the greatest wear, B up to it", spans(5, 5, 4, 5).compareCouples(0, 1), 2);
        due.is("the greatest wear alone", spans(5, 5, 5, 5).compareCouples(0, 1), 0);
        due.is("all of wear each", spans(0, 5, 0, 5).compareCouples(0, 1), 0);
        due.is("no wear at all", spans(0, 0, 0, 0).compareCouples(0, 1), 0);
    }

    private void consistent() {
        document.hold("Description", "The chronology is consistent if there is no sequence of couples in which each is"
                + " earlier than the next one and the last one is earlier than the first one.");
        due.is("the least sequence there can be", Studies.ringOfFour().isConsistent(), 0);
        DieStudy x = Studies.ringOfAllDies(20);
        due.is("the greatest ring", x.isConsistent(), 0);
        x.setWear(0, 1, 0);
        due.is("the last one is not earlier than the first", x.isConsistent(), 1);
        x.setWear(0, 1, 1);
        due.is("the last one is earlier again", x.isConsistent(), 0);
        x.removeSpecimen(10);
        due.is("a couple in the middle is missing", x.isConsistent(), 1);
        due.is("no couples", new DieStudy().isConsistent(), 1);
        DieStudy y = Studies.ringOfFour();
        y.addSpecimen(0, 5, 0, 0);
        due.is("a ring and one couple more", y.isConsistent(), 0);
        y.removeSpecimen(4);
        due.is("the ring without that couple", y.isConsistent(), 0);
    }

    private void order() {
        document.hold("Description", "If it is consistent, the chronological order of the couples is made step by step:"
                + " of all couples that have not been placed and than which no couple that has not been placed is"
                + " earlier, the one with the lowest number is placed next.");
        DieStudy x = new DieStudy();
        x.addSpecimen(0, 0, 1, 0);
        x.addSpecimen(0, 9, 0, 1);
        x.addSpecimen(5, 5, 0, 0);
        x.addSpecimen(9, 9, 0, 0);
        int[] order = {2, 3, 1, 0};
        for (int place = 0; place < order.length; place++) {
            due.is("place " + place, x.coupleInOrder(place), order[place]);
        }
        due.is("the only couple", Studies.ofOneCouple(24).coupleInOrder(0), 0);
        DieStudy y = Studies.of(33, 22, 11);
        for (int place = 0; place < 3; place++) {
            due.is("none is earlier: place " + place, y.coupleInOrder(place), place);
        }
    }

    private void generations() {
        document.hold("Description", "The generation of a couple is 0 if no couple is earlier than it, and otherwise"
                + " 1 more than the greatest generation of the couples that are earlier than it.");
        DieStudy x = new DieStudy();
        x.addSpecimen(0, 0, 0, 0);
        x.addSpecimen(0, 1, 1, 1);
        x.addSpecimen(9, 1, 0, 0);
        x.addSpecimen(9, 2, 0, 0);
        x.addSpecimen(0, 3, 2, 0);
        int[] generations = {0, 1, 2, 0, 0};
        for (int couple = 0; couple < generations.length; couple++) {
            due.is("couple " + couple, x.generation(couple), generations[couple]);
        }
        due.is("the greatest there can be", Studies.toAndFro().generation(18), 23);
        DieStudy y = Studies.ringOfAllDies(20);
        y.setWear(0, 1, 0);
        due.is("the last of 20", y.generation(18), 19);
        y.removeSpecimen(18);
        due.is("the one before it is gone", y.generation(18), 0);
    }

    private void eachSideByItself() {
        document.hold("Description", "For one side, let n be the number of specimens, d the number of known dies, and"
                + " s the number of dies of which there is exactly one specimen. All of the following are computed for"
                + " each side by itself.");
        DieStudy x = Studies.of(10, 11, 12, 13, 14, 15, 16, 17, 18, 19);
        due.is("obverse d", x.dieCount(0), 1);
        due.is("reverse d", x.dieCount(1), 10);
        due.is("obverse s", x.singletons(0), 0);
        due.is("reverse s", x.singletons(1), 10);
        due.is("obverse coverage estimate", x.coverageEstimate(0), 1000);
        due.is("reverse coverage estimate", x.coverageEstimate(1), -3);
        due.is("obverse frequency estimate", x.frequencyEstimate(0), 1003);
        due.is("reverse frequency estimate", x.frequencyEstimate(1), -3);
    }

    private void coverage() {
        document.hold("Description", "The coverage is 1 - s / n. The coverage estimate of the number of dies is d"
                + " divided by the coverage; it does not exist if s equals n.");
        due.is("s 0, n 0", new DieStudy().coverageEstimate(0), -3);
        due.is("s 1, n 1", Studies.ofNumbers(1, 1).coverageEstimate(0), -3);
        due.is("s 0, n 2", Studies.ofNumbers(2, 1).coverageEstimate(0), 1000);
        due.is("s 10, n 10", Studies.ofNumbers(10, 10).coverageEstimate(0), -3);
        due.is("s 8, n 10", Studies.ofNumbers(10, 9).coverageEstimate(0), 45000);
        due.is("s 9, n 11", Studies.ofNumbers(11, 10).coverageEstimate(0), 55000);
    }

    private void frequencyEstimateExists() {
        document.hold("Description", "The frequency estimate does not exist if n is less than 2 or n equals d.");
        due.is("n 0", new DieStudy().frequencyEstimate(0), -3);
        due.is("n 1", Studies.ofNumbers(1, 1).frequencyEstimate(0), -3);
        due.is("n 2, d 1", Studies.ofNumbers(2, 1).frequencyEstimate(0), 1544);
        int[] withOneMore = {1544, 4477, 8287, 12853, 18028, 23702, 29787, 36217, 42938, 49909};
        for (int d = 1; d <= 10; d++) {
            due.is("n is d: " + d, Studies.ofNumbers(d, d).frequencyEstimate(0), -3);
            due.is("n is d + 1: " + d, Studies.ofNumbers(d + 1, d).frequencyEstimate(0), withOneMore[d - 1]);
        }
    }

    /** The values were worked out as fractions of whole numbers, apart from this program and its tests. */
    private void frequencyEstimateFormulas() {
        document.hold("Description", "Otherwise it is n * d * 1000 / (1124 * n - 1016 * d) if n is less than 2 * d;"
                + " n * d * 1000 / (1069 * n - 843 * d) if n is at least 2 * d, but less than 3 * d; and"
                + " n * d * 1000 / (1016 * n - 197 * d) if n is at least 3 * d.");
        int[] belowTwice = {-3, 4477, 5832, 7360, 8935, 10529, 12133, 13742, 15355, 16970};
        int[] twice = {1544, 3088, 4633, 6177, 7722, 9266, 10810, 12355, 13899, 15444};
        int[] belowThrice = {1544, 2732, 3984, 5246, 6511, 7777, 9044, 10312};
        int[] thrice = {1052, 2104, 3156, 4209, 5261, 6313, 7365, 8418};
        for (int d = 1; d <= 10; d++) {
            due.is("d " + d + ", n 2 d - 1", Studies.ofNumbers(2 * d - 1, d).frequencyEstimate(0), belowTwice[d - 1]);
            due.is("d " + d + ", n 2 d", Studies.ofNumbers(2 * d, d).frequencyEstimate(0), twice[d - 1]);
        }
        for (int d = 1; d <= 8; d++) {
            due.is("d " + d + ", n 3 d - 1", Studies.ofNumbers(3 * d - 1, d).frequencyEstimate(0), belowThrice[d - 1]);
            due.is("d " + d + ", n 3 d", Studies.ofNumbers(3 * d, d).frequencyEstimate(0), thrice[d - 1]);
        }
        int[] full = {992, 2000, 3026, 4068, 5128, 6206, 7302, 8418, 11954, 13932};
        for (int d = 1; d <= 10; d++) {
            due.is("d " + d + ", n 24", Studies.ofNumbers(24, d).frequencyEstimate(0), full[d - 1]);
        }
    }

    private void roundedDown() {
        document.hold("Description", "Estimates are returned in thousandths: the exact value, multiplied by 1000 and"
                + " rounded down.");
        due.is("4238.998..", Studies.ofNumbers(7, 3).frequencyEstimate(0), 4238);
        due.is("2732.987..", Studies.ofNumbers(5, 2).frequencyEstimate(0), 2732);
        due.is("7722.007..", Studies.ofNumbers(10, 5).frequencyEstimate(0), 7722);
        due.is("2666.666..", Studies.ofNumbers(4, 2).coverageEstimate(0), 2666);
        due.is("4500, exactly", Studies.ofNumbers(6, 3).coverageEstimate(0), 4500);
        due.is("3428.571..", threeDies().coverageEstimate(0), 3428);
    }

    /** Dies with three, four and one specimens: 3 / (1 - 1 / 8) = 3.42857. */
    private static DieStudy threeDies() {
        return Studies.of(0, 0, 0, 10, 10, 10, 10, 20);
    }

    private void invalidRatherThanLimit() {
        document.hold("Description", ERRORS_IN_ORDER);
        DieStudy x = Studies.ofOneCouple(24);
        due.is("full", x.addSpecimen(9, 9, 5, 5), -2);
        due.is("full, obverse", x.addSpecimen(10, 9, 5, 5), -1);
        due.is("full, reverse", x.addSpecimen(9, 10, 5, 5), -1);
        due.is("full, obverse wear", x.addSpecimen(9, 9, 6, 5), -1);
        due.is("full, reverse wear", x.addSpecimen(9, 9, 5, 6), -1);
    }

    private void invalidRatherThanNotFound() {
        document.hold("Description", ERRORS_IN_ORDER);
        DieStudy x = Studies.of(12);
        due.is("merging of an unknown die", x.mergeDies(0, 5, 6), -3);
        due.is("merging of an unknown die, side", x.mergeDies(2, 5, 6), -1);
        due.is("merging of an unknown die, to", x.mergeDies(0, 5, 10), -1);
        due.is("mean wear of an unknown die", x.meanWearBits(0, 5), -3);
        due.is("mean wear of an unknown die, side", x.meanWearBits(2, 5), -1);
        due.is("component of an unknown die", x.componentSize(0, 5), -3);
        due.is("component of an unknown die, side", x.componentSize(-1, 5), -1);
        due.is("coverage estimate", x.coverageEstimate(0), -3);
        due.is("coverage estimate, side", x.coverageEstimate(2), -1);
        due.is("frequency estimate", x.frequencyEstimate(0), -3);
        due.is("frequency estimate, side", x.frequencyEstimate(-1), -1);
        due.is("no such couple, not negative", new DieStudy().coupleAt(0), -3);
        due.is("no such couple, negative", new DieStudy().coupleAt(-1), -1);
        due.is("no such couple, compared with itself", x.compareCouples(1, 1), -1);
    }

    private void notFoundRatherThanContradiction() {
        document.hold("Description", ERRORS_IN_ORDER);
        DieStudy x = Studies.ringOfFour();
        due.is("place 3", x.coupleInOrder(3), -4);
        due.is("place 4", x.coupleInOrder(4), -3);
        due.is("place -1", x.coupleInOrder(-1), -1);
        due.is("generation of 3", x.generation(3), -4);
        due.is("generation of 4", x.generation(4), -3);
        due.is("generation of -1", x.generation(-1), -1);
    }

    /** RefusedCallsTest holds this sentence for every error that each method can answer. */
    private void refusedEdits() {
        document.hold("Description", "A call that returns an error changes nothing and is no edit.");
        DieStudy x = Studies.ofOneCouple(24);
        for (int i = 0; i < 6; i++) {
            due.is("refused adding", x.addSpecimen(0, 0, 0, 0), -2);
            due.is("refused removal", x.removeSpecimen(24), -1);
            due.is("refused wear", x.setWear(0, 0, 6), -1);
            due.is("refused merging", x.mergeDies(0, 1, 7), -3);
        }
        due.is("undo() undoes the 24th", x.undo(), 4);
        due.is("23 are left", x.specimenCount(), 23);
    }
}
