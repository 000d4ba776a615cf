/** The boundary cases of promises 8 to 10: dieCount, frequency and meanWearBits. */
final class BoundariesOfDies {
    private final Due due;
    private final Sentences document;

    BoundariesOfDies(Due due, Sentences document) {
        this.due = due;
        this.document = document;
    }

    void run() {
        dieCount();
        dieCountOutOfRange();
        frequency();
        frequencyOutOfRange();
        meanWear();
        meanWearArguments();
        meanWearBits();
        meanWearOutOfRange();
        meanWearOfAnUnknownDie();
    }

    private void dieCount() {
        document.hold("Promise 8", "Counts the known dies of a side.");
        due.is("none", new DieStudy().dieCount(0), 0);
        due.is("one with 24 specimens", Studies.ofOneCouple(24).dieCount(1), 1);
        DieStudy x = Studies.of(9, 18, 27, 36, 45, 54, 63, 72, 81, 90, 9);
        document.hold("Promise 8", "Returns d for this side");
        due.is("all ten obverse dies", x.dieCount(0), 10);
        due.is("all ten reverse dies", x.dieCount(1), 10);
        x.mergeDies(1, 0, 9);
        due.is("obverse after a merging", x.dieCount(0), 10);
        due.is("reverse after a merging", x.dieCount(1), 9);
        x.removeSpecimen(0);
        due.is("another specimen of the die is left", x.dieCount(0), 10);
        x.removeSpecimen(9);
        due.is("the die's last specimen is gone", x.dieCount(0), 9);
    }

    private void dieCountOutOfRange() {
        document.hold("Promise 8", "- `side`: 0 or 1");
        DieStudy x = Studies.of(12, 13);
        due.is("side 0", x.dieCount(0), 1);
        due.is("side 1", x.dieCount(1), 2);
        document.hold("Promise 8", "INVALID_ARGUMENT if side is out of range.");
        for (int side : Outside.ofSides()) {
            due.is("side " + side, x.dieCount(side), -1);
            due.is("empty: side " + side, new DieStudy().dieCount(side), -1);
        }
    }

    private void frequency() {
        document.hold("Promise 9", "Counts the specimens of a die.");
        due.is("all 24", Studies.ofOneCouple(24).frequency(0, 7), 24);
        document.hold("Promise 9", "Returns the number of specimens");
        due.is("empty", new DieStudy().frequency(0, 0), 0);
        due.is("not known", Studies.ofOneCouple(24).frequency(0, 8), 0);
        due.is("known on the other side alone", Studies.ofOneCouple(24).frequency(1, 7), 0);
        DieStudy x = Studies.of(12, 13);
        document.hold("Promise 9", "- `side`: 0 or 1");
        due.is("side 0", x.frequency(0, 1), 2);
        due.is("side 1", x.frequency(1, 3), 1);
        document.hold("Promise 9", "- `die`: 0 to 9");
        due.is("die 0", Studies.of(9, 5).frequency(0, 0), 2);
        due.is("die 9", Studies.of(9, 5).frequency(1, 9), 1);
    }

    private void frequencyOutOfRange() {
        document.hold("Promise 9", "INVALID_ARGUMENT if an argument is out of range.");
        for (DieStudy x : new DieStudy[] {new DieStudy(), Studies.of(0, 9, 90, 99), Studies.ofOneCouple(24)}) {
            for (int side : Outside.ofSides()) {
                due.is("side " + side, x.frequency(side, 0), -1);
                due.is("side " + side, x.frequency(side, 9), -1);
            }
            for (int die : Outside.ofDies()) {
                due.is("obverse die " + die, x.frequency(0, die), -1);
                due.is("reverse die " + die, x.frequency(1, die), -1);
            }
        }
    }

    /** A die with so many specimens, the wear of which has this sum, beside another die that is worn otherwise. */
    private static DieStudy worn(int specimens, int sum) {
        DieStudy x = new DieStudy();
        int left = sum;
        for (int i = 0; i < specimens; i++) {
            int wear = Math.min(5, left);
            x.addSpecimen(6, 2, wear, 5 - wear);
            left -= wear;
        }
        x.addSpecimen(5, 3, 1, 1);
        return x;
    }

    private void meanWear() {
        document.hold("Promise 10", "Returns the mean wear of a die: the sum of its wear over all specimens of the die"
                + " as a float, divided by their number as a float.");
        for (int specimens = 1; specimens <= 24; specimens++) {
            for (int sum : new int[] {0, 1, 5 * specimens - 1, 5 * specimens}) {
                due.is("mean " + sum + " / " + specimens, worn(specimens, sum).meanWearBits(0, 6),
                        Float.floatToIntBits((float) sum / (float) specimens));
            }
        }
    }

    private void meanWearArguments() {
        DieStudy x = new DieStudy();
        x.addSpecimen(0, 9, 1, 2);
        x.addSpecimen(9, 0, 3, 4);
        document.hold("Promise 10", "- `side`: 0 or 1");
        due.is("side 0", x.meanWearBits(0, 0), Float.floatToIntBits(1f));
        due.is("side 1", x.meanWearBits(1, 0), Float.floatToIntBits(4f));
        document.hold("Promise 10", "- `die`: 0 to 9");
        due.is("obverse die 9", x.meanWearBits(0, 9), Float.floatToIntBits(3f));
        due.is("reverse die 9", x.meanWearBits(1, 9), Float.floatToIntBits(2f));
    }

    private void meanWearBits() {
        document.hold("Promise 10", "Returns the bits of the float as by Float.floatToIntBits");
        due.is("0", worn(1, 0).meanWearBits(0, 6), 0);
        due.is("0 of 24", worn(24, 0).meanWearBits(0, 6), 0);
        due.is("1 / 24, the least above 0", worn(24, 1).meanWearBits(0, 6), 0x3d2aaaab);
        due.is("1 / 2", worn(2, 1).meanWearBits(0, 6), 0x3f000000);
        due.is("23 / 24, the greatest below 1", worn(24, 23).meanWearBits(0, 6), 0x3f755555);
        due.is("1", worn(24, 24).meanWearBits(0, 6), 0x3f800000);
        due.is("47 / 24, the greatest below 2", worn(24, 47).meanWearBits(0, 6), 0x3ffaaaab);
        due.is("2", worn(24, 48).meanWearBits(0, 6), 0x40000000);
        due.is("95 / 24, the greatest below 4", worn(24, 95).meanWearBits(0, 6), 0x407d5555);
        due.is("4", worn(1, 4).meanWearBits(0, 6), 0x40800000);
        due.is("119 / 24, the greatest below 5", worn(24, 119).meanWearBits(0, 6), 0x409eaaab);
        due.is("5", worn(24, 120).meanWearBits(0, 6), 0x40a00000);
    }

    private void meanWearOutOfRange() {
        document.hold("Promise 10", "INVALID_ARGUMENT if an argument is out of range");
        for (DieStudy x : new DieStudy[] {new DieStudy(), Studies.of(0, 9, 90, 99), Studies.ofOneCouple(24)}) {
            for (int side : Outside.ofSides()) {
                due.is("side " + side, x.meanWearBits(side, 0), -1);
                due.is("side " + side, x.meanWearBits(side, 5), -1);
            }
            for (int die : Outside.ofDies()) {
                due.is("obverse die " + die, x.meanWearBits(0, die), -1);
                due.is("reverse die " + die, x.meanWearBits(1, die), -1);
            }
        }
    }

    private void meanWearOfAnUnknownDie() {
        document.hold("Promise 10", "NOT_FOUND if the die is not known.");
        due.is("empty", new DieStudy().meanWearBits(0, 0), -3);
        DieStudy x = Studies.of(12);
        due.is("known", x.meanWearBits(0, 1), 0);
        due.is("known on the other side alone", x.meanWearBits(1, 1), -3);
        x.mergeDies(0, 1, 4);
        due.is("merged away", x.meanWearBits(0, 1), -3);
        due.is("merged into", x.meanWearBits(0, 4), 0);
        x.undo();
        due.is("known again", x.meanWearBits(0, 1), 0);
        due.is("not known again", x.meanWearBits(0, 4), -3);
        x.removeSpecimen(0);
        due.is("its only specimen is removed", x.meanWearBits(0, 1), -3);
    }
}
