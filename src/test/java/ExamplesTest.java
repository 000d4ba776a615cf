/** The four examples of the document's 'Description', each on a new object. */
public final class ExamplesTest {
    private static final Due due = new Due();

    public static void main(String[] args) {
        threeCouplesInAChronology();
        aContradiction();
        estimatesAndMeanWear();
        mergedDiesAndUndoing();
        due.end();
    }

    private static void threeCouplesInAChronology() {
        DieStudy x = new DieStudy();
        due.is("1: addSpecimen(1, 1, 0, 0)", x.addSpecimen(1, 1, 0, 0), 0);
        due.is("1: addSpecimen(1, 2, 2, 0)", x.addSpecimen(1, 2, 2, 0), 1);
        due.is("1: addSpecimen(2, 2, 0, 3)", x.addSpecimen(2, 2, 0, 3), 2);
        due.is("1: coupleCount()", x.coupleCount(), 3);
        due.is("1: coupleAt(1)", x.coupleAt(1), 12);
        due.is("1: compareCouples(0, 1)", x.compareCouples(0, 1), 1);
        due.is("1: compareCouples(1, 2)", x.compareCouples(1, 2), 1);
        due.is("1: generation(2)", x.generation(2), 2);
        due.is("1: componentCount()", x.componentCount(), 1);
    }

    private static void aContradiction() {
        DieStudy x = new DieStudy();
        due.is("2: addSpecimen(0, 0, 0, 2)", x.addSpecimen(0, 0, 0, 2), 0);
        due.is("2: addSpecimen(0, 1, 1, 0)", x.addSpecimen(0, 1, 1, 0), 1);
        due.is("2: addSpecimen(1, 1, 0, 1)", x.addSpecimen(1, 1, 0, 1), 2);
        due.is("2: addSpecimen(1, 0, 1, 0)", x.addSpecimen(1, 0, 1, 0), 3);
        due.is("2: isConsistent()", x.isConsistent(), 0);
        due.is("2: coupleInOrder(0)", x.coupleInOrder(0), -4);
        due.is("2: cycleRank()", x.cycleRank(), 1);
        due.is("2: bridgeCount()", x.bridgeCount(), 0);
    }

    private static void estimatesAndMeanWear() {
        DieStudy x = new DieStudy();
        due.is("3: addSpecimen(4, 4, 0, 0)", x.addSpecimen(4, 4, 0, 0), 0);
        due.is("3: coverageEstimate(0)", x.coverageEstimate(0), -3);
        due.is("3: addSpecimen(4, 5, 1, 0)", x.addSpecimen(4, 5, 1, 0), 1);
        due.is("3: addSpecimen(6, 5, 1, 0)", x.addSpecimen(6, 5, 1, 0), 2);
        due.is("3: coverageEstimate(0)", x.coverageEstimate(0), 3000);
        due.is("3: frequencyEstimate(0)", x.frequencyEstimate(0), 4477);
        due.is("3: singletons(0)", x.singletons(0), 1);
        due.is("3: meanWearBits(0, 4)", x.meanWearBits(0, 4), 1056964608);
    }

    private static void mergedDiesAndUndoing() {
        DieStudy x = new DieStudy();
        due.is("4: addSpecimen(10, 0, 0, 0)", x.addSpecimen(10, 0, 0, 0), -1);
        due.is("4: addSpecimen(3, 4, 1, 1)", x.addSpecimen(3, 4, 1, 1), 0);
        due.is("4: mergeDies(0, 5, 3)", x.mergeDies(0, 5, 3), -3);
        due.is("4: mergeDies(0, 3, 5)", x.mergeDies(0, 3, 5), 1);
        due.is("4: dieOf(0, 0)", x.dieOf(0, 0), 5);
        due.is("4: undo()", x.undo(), 1);
        due.is("4: dieOf(0, 0)", x.dieOf(0, 0), 3);
    }
}
