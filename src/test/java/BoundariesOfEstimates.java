/** The boundary cases of promises 22 to 24: singletons and the two estimates. */
final class BoundariesOfEstimates {
    private final Due due;
    private final Sentences document;

    BoundariesOfEstimates(Due due, Sentences document) {
        this.due = due;
        this.document = document;
    }

    void run() {
        singletons();
        singletonsOutOfRange();
        coverageEstimate();
        coverageEstimateOutOfRange();
        coverageEstimateThatDoesNotExist();
        frequencyEstimate();
        frequencyEstimateOutOfRange();
        frequencyEstimateThatDoesNotExist();
    }

    private void singletons() {
        document.hold("Promise 22", "Returns the number of dies of a side of which there is exactly one specimen.");
        due.is("no specimen", new DieStudy().singletons(0), 0);
        due.is("one specimen", Studies.ofOneCouple(1).singletons(0), 1);
        due.is("two specimens", Studies.ofOneCouple(2).singletons(0), 0);
        due.is("24 specimens", Studies.ofOneCouple(24).singletons(0), 0);
        document.hold("Promise 22", "Returns s for this side");
        due.is("ten dies with one each", Studies.ofNumbers(10, 10).singletons(0), 10);
        due.is("nine dies with one and one with two", Studies.ofNumbers(11, 10).singletons(0), 9);
        DieStudy x = Studies.of(12, 32);
        due.is("before a merging", x.singletons(0), 2);
        x.mergeDies(0, 1, 3);
        due.is("after a merging", x.singletons(0), 0);
        x.removeSpecimen(0);
        due.is("after a removal", x.singletons(1), 1);
    }

    private void singletonsOutOfRange() {
        document.hold("Promise 22", "- `side`: 0 or 1");
        DieStudy x = Studies.of(12, 13, 23);
        due.is("side 0", x.singletons(0), 1);
        x.addSpecimen(2, 4, 0, 0);
        due.is("side 0", x.singletons(0), 0);
        due.is("side 1", x.singletons(1), 2);
        document.hold("Promise 22", "INVALID_ARGUMENT if side is out of range.");
        for (int side : Outside.ofSides()) {
            due.is("side " + side, x.singletons(side), -1);
            due.is("empty: side " + side, new DieStudy().singletons(side), -1);
        }
    }

    private void coverageEstimate() {
        document.hold("Promise 23", "Returns the coverage estimate of the number of dies of a side, in thousandths.");
        due.is("d 1, n 2, s 0", Studies.ofNumbers(2, 1).coverageEstimate(0), 1000);
        document.hold("Promise 23", "- `side`: 0 or 1");
        DieStudy x = Studies.of(12, 13, 23);
        due.is("side 0: d 2, n 3, s 1", x.coverageEstimate(0), 3000);
        x.addSpecimen(1, 4, 0, 0);
        due.is("side 1: d 3, n 4, s 2", x.coverageEstimate(1), 6000);
        document.hold("Promise 23", "Returns the estimate");
        due.is("d 1, n 24, s 0", Studies.ofNumbers(24, 1).coverageEstimate(0), 1000);
        due.is("d 10, n 24, s 9", Studies.ofNumbers(24, 10).coverageEstimate(0), 16000);
        due.is("d 10, n 11, s 9: the greatest", Studies.ofNumbers(11, 10).coverageEstimate(0), 55000);
    }

    private void coverageEstimateOutOfRange() {
        document.hold("Promise 23", "INVALID_ARGUMENT if side is out of range");
        for (int side : Outside.ofSides()) {
            due.is("side " + side, Studies.ofNumbers(24, 10).coverageEstimate(side), -1);
            due.is("empty: side " + side, new DieStudy().coverageEstimate(side), -1);
        }
    }

    private void coverageEstimateThatDoesNotExist() {
        document.hold("Promise 23", "NOT_FOUND if it does not exist.");
        due.is("empty", new DieStudy().coverageEstimate(0), -3);
        for (int n = 1; n <= 10; n++) {
            due.is("s is n: " + n, Studies.ofNumbers(n, n).coverageEstimate(0), -3);
        }
        DieStudy x = Studies.of(12, 32);
        due.is("obverse does not exist", x.coverageEstimate(0), -3);
        due.is("reverse exists", x.coverageEstimate(1), 1000);
        x.mergeDies(0, 1, 3);
        due.is("obverse exists", x.coverageEstimate(0), 1000);
        x.undo();
        due.is("obverse does not exist again", x.coverageEstimate(0), -3);
    }

    private void frequencyEstimate() {
        document.hold("Promise 24", "Returns the frequency estimate of the number of dies of a side, in thousandths.");
        due.is("d 2, n 3", Studies.ofNumbers(3, 2).frequencyEstimate(0), 4477);
        document.hold("Promise 24", "- `side`: 0 or 1");
        DieStudy x = Studies.of(12, 13, 23, 14);
        due.is("side 0: d 2, n 4", x.frequencyEstimate(0), 3088);
        due.is("side 1: d 3, n 4", x.frequencyEstimate(1), 8287);
        document.hold("Promise 24", "Returns the estimate");
        due.is("d 1, n 24: the least", Studies.ofNumbers(24, 1).frequencyEstimate(0), 992);
        due.is("d 10, n 11: the greatest", Studies.ofNumbers(11, 10).frequencyEstimate(0), 49909);
    }

    private void frequencyEstimateOutOfRange() {
        document.hold("Promise 24", "INVALID_ARGUMENT if side is out of range");
        for (int side : Outside.ofSides()) {
            due.is("side " + side, Studies.ofNumbers(24, 10).frequencyEstimate(side), -1);
            due.is("empty: side " + side, new DieStudy().frequencyEstimate(side), -1);
        }
    }

    private void frequencyEstimateThatDoesNotExist() {
        document.hold("Promise 24", "NOT_FOUND if it does not exist.");
        due.is("empty", new DieStudy().frequencyEstimate(0), -3);
        due.is("one specimen", Studies.ofNumbers(1, 1).frequencyEstimate(0), -3);
        due.is("two specimens of one die", Studies.ofNumbers(2, 1).frequencyEstimate(0), 1544);
        DieStudy x = Studies.of(12, 32);
        due.is("obverse does not exist", x.frequencyEstimate(0), -3);
        due.is("reverse exists", x.frequencyEstimate(1), 1544);
        x.mergeDies(0, 1, 3);
        due.is("obverse exists", x.frequencyEstimate(0), 1544);
        x.undo();
        due.is("obverse does not exist again", x.frequencyEstimate(0), -3);
    }
}
