/** The boundary cases of promises 1 to 7: a new object, the edits, specimenCount and dieOf. */
final class BoundariesOfSpecimens {
    private final Due due;
    private final Sentences document;

    BoundariesOfSpecimens(Due due, Sentences document) {
        this.due = due;
        this.document = document;
    }

    void run() {
        aNewStudy();
        addSpecimenIsAnEdit();
        addSpecimenDies();
        addSpecimenWear();
        addSpecimenAnswersTheNumber();
        addSpecimenOutOfRange();
        addSpecimenToTwentyFour();
        removeSpecimenMovesDown();
        removeSpecimenIsAnEdit();
        removeSpecimenAnswersHowManyRemain();
        removeSpecimenThatIsNotThere();
        setWearIsAnEdit();
        setWearArguments();
        setWearAnswersThePreviousWear();
        setWearOutOfRange();
        mergeDiesChangesAllSpecimens();
        mergeDiesIsAnEdit();
        mergeDiesArguments();
        mergeDiesAnswersHowManyHaveChanged();
        mergeDiesOutOfRange();
        mergeDiesOfAnUnknownDie();
        specimenCount();
        dieOf();
        dieOfOutOfRange();
    }

    private void aNewStudy() {
        document.hold("Promise 1", "Creates a study without specimens and with an empty history.");
        DieStudy full = Studies.toAndFro();
        DieStudy x = new DieStudy();
        due.is("new: specimenCount()", x.specimenCount(), 0);
        due.is("new: dieOf(0, 0)", x.dieOf(0, 0), -1);
        due.is("new: undo()", x.undo(), -3);
        due.is("new: undo() changed nothing", x.specimenCount(), 0);
        due.is("new: the first specimen", x.addSpecimen(0, 0, 0, 0), 0);
        due.is("new: its edit is the only one", x.undo(), 0);
        due.is("a full one beside it", full.specimenCount(), 24);
    }

    private void addSpecimenIsAnEdit() {
        document.hold("Promise 2", "Adds a specimen. This is an edit.");
        DieStudy x = new DieStudy();
        x.addSpecimen(4, 5, 1, 2);
        due.is("one more", x.specimenCount(), 1);
        due.is("undo()", x.undo(), 0);
        due.is("none again", x.specimenCount(), 0);
    }

    private void addSpecimenDies() {
        for (int side = 0; side < 2; side++) {
            document.hold("Promise 2", side == 0 ? "- `obverse`: obverse die, 0 to 9" : "- `reverse`: reverse die, 0 to 9");
            for (int die : new int[] {0, 9}) {
                DieStudy x = new DieStudy();
                due.is("add die " + die, addWithDie(x, side, die), 0);
                due.is("its die", x.dieOf(0, side), die);
                due.is("the other side's die", x.dieOf(0, 1 - side), 4);
            }
            for (int die : Outside.ofDies()) {
                due.is("add die " + die, addWithDie(new DieStudy(), side, die), -1);
            }
        }
    }

    private static int addWithDie(DieStudy x, int side, int die) {
        return side == 0 ? x.addSpecimen(die, 4, 0, 0) : x.addSpecimen(4, die, 0, 0);
    }

    private void addSpecimenWear() {
        for (int side = 0; side < 2; side++) {
            document.hold("Promise 2", side == 0 ? "- `obverseWear`: wear of the obverse die, 0 to 5"
                    : "- `reverseWear`: wear of the reverse die, 0 to 5");
            for (int wear : new int[] {0, 5}) {
                DieStudy x = new DieStudy();
                due.is("add wear " + wear, addWithWear(x, side, wear), 0);
                due.is("its wear", x.setWear(0, side, 3), wear);
                due.is("the other die's wear", x.setWear(0, 1 - side, 3), 2);
            }
            for (int wear : Outside.ofWear()) {
                due.is("add wear " + wear, addWithWear(new DieStudy(), side, wear), -1);
            }
        }
    }

    private static int addWithWear(DieStudy x, int side, int wear) {
        return side == 0 ? x.addSpecimen(4, 4, wear, 2) : x.addSpecimen(4, 4, 2, wear);
    }

    private void addSpecimenAnswersTheNumber() {
        document.hold("Promise 2", "Returns the number of the specimen");
        DieStudy x = new DieStudy();
        for (int i = 0; i < 24; i++) {
            due.is("add number " + i, x.addSpecimen(i % 10, 9 - i % 10, i % 6, 5 - i % 6), i);
        }
        x.removeSpecimen(0);
        due.is("number after a lower one is gone", x.addSpecimen(3, 8, 0, 0), 23);
        due.is("its obverse die", x.dieOf(23, 0), 3);
        due.is("its reverse die", x.dieOf(23, 1), 8);
    }

    private void addSpecimenOutOfRange() {
        document.hold("Promise 2", "INVALID_ARGUMENT if an argument is out of range");
        DieStudy full = Studies.ofOneCouple(24);
        due.is("all just inside", new DieStudy().addSpecimen(9, 9, 5, 5), 0);
        due.is("all just above", new DieStudy().addSpecimen(10, 10, 6, 6), -1);
        due.is("all just below", new DieStudy().addSpecimen(-1, -1, -1, -1), -1);
        due.is("full: obverse", full.addSpecimen(10, 0, 0, 0), -1);
        due.is("full: reverse", full.addSpecimen(0, -1, 0, 0), -1);
        due.is("full: obverse wear", full.addSpecimen(0, 0, 6, 0), -1);
        due.is("full: reverse wear", full.addSpecimen(0, 0, 0, -1), -1);
    }

    private void addSpecimenToTwentyFour() {
        document.hold("Promise 2", "LIMIT_REACHED if there are 24 specimens.");
        DieStudy x = Studies.ofOneCouple(23);
        due.is("to 23", x.addSpecimen(0, 0, 0, 0), 23);
        due.is("to 24", x.addSpecimen(1, 1, 1, 1), -2);
        due.is("to 24 again", x.addSpecimen(0, 0, 0, 0), -2);
        due.is("still 24", x.specimenCount(), 24);
        due.is("the refused die is not known", x.frequency(0, 1), 0);
        due.is("remove one", x.removeSpecimen(5), 23);
        due.is("to 23 again", x.addSpecimen(1, 1, 1, 1), 23);
        due.is("undo the adding", x.undo(), 4);
        due.is("undo the removal", x.undo(), 3);
        due.is("to the 24 that are back", x.addSpecimen(0, 0, 0, 0), -2);
        due.is("undo the 24th", x.undo(), 2);
        due.is("to 23 once more", x.addSpecimen(2, 2, 2, 2), 23);
    }

    /** 24 specimens that differ in die and wear from their neighbours. */
    private static DieStudy fullOfDifferentOnes() {
        DieStudy x = new DieStudy();
        for (int i = 0; i < 24; i++) {
            x.addSpecimen(i % 10, i % 7, i % 6, i % 5);
        }
        return x;
    }

    private void isSpecimen(String where, DieStudy x, int specimen, int was) {
        due.is(where + ": obverse of " + specimen, x.dieOf(specimen, 0), was % 10);
        due.is(where + ": reverse of " + specimen, x.dieOf(specimen, 1), was % 7);
        due.is(where + ": obverse wear of " + specimen, x.setWear(specimen, 0, was % 6), was % 6);
        due.is(where + ": reverse wear of " + specimen, x.setWear(specimen, 1, was % 5), was % 5);
    }

    private void removeSpecimenMovesDown() {
        document.hold("Promise 3", "Removes a specimen; those with higher numbers move down by one.");
        for (int gone : new int[] {0, 1, 12, 22, 23}) {
            DieStudy x = fullOfDifferentOnes();
            x.removeSpecimen(gone);
            for (int i = 0; i < 23; i++) {
                isSpecimen("without " + gone, x, i, i < gone ? i : i + 1);
            }
            due.is("without " + gone + ": no 24th", x.dieOf(23, 0), -1);
        }
    }

    private void removeSpecimenIsAnEdit() {
        document.hold("Promise 3", "This is an edit.");
        for (int gone : new int[] {0, 12, 23}) {
            DieStudy x = fullOfDifferentOnes();
            x.removeSpecimen(gone);
            due.is("undo()", x.undo(), 4);
            for (int i = 0; i < 24; i++) {
                isSpecimen(gone + " is back", x, i, i);
            }
        }
    }

    private void removeSpecimenAnswersHowManyRemain() {
        document.hold("Promise 3", "Returns the number of specimens that remain");
        DieStudy x = fullOfDifferentOnes();
        for (int remain = 23; remain >= 0; remain--) {
            due.is("remove the last one", x.removeSpecimen(remain), remain);
            due.is("specimenCount()", x.specimenCount(), remain);
        }
    }

    private void removeSpecimenThatIsNotThere() {
        document.hold("Promise 3", "- `specimen`: number of a specimen");
        due.is("least number", fullOfDifferentOnes().removeSpecimen(0), 23);
        due.is("greatest number", fullOfDifferentOnes().removeSpecimen(23), 23);
        document.hold("Promise 3", "INVALID_ARGUMENT if there is no such specimen.");
        for (int specimens : new int[] {0, 1, 23, 24}) {
            DieStudy x = Studies.ofOneCouple(specimens);
            for (int specimen : Outside.of(0, specimens - 1)) {
                due.is(specimens + ": remove " + specimen, x.removeSpecimen(specimen), -1);
            }
            due.is("all remain", x.specimenCount(), specimens);
        }
        DieStudy x = Studies.of(11, 22);
        x.removeSpecimen(1);
        due.is("one that has been removed", x.removeSpecimen(1), -1);
        x.undo();
        x.undo();
        due.is("one whose adding is undone", x.removeSpecimen(1), -1);
    }

    private void setWearIsAnEdit() {
        document.hold("Promise 4", "Sets the wear of a die of a specimen. This is an edit.");
        DieStudy x = Studies.of(11);
        x.setWear(0, 0, 5);
        due.is("is set", x.meanWearBits(0, 1), Float.floatToIntBits(5f));
        due.is("the other die's wear stays", x.meanWearBits(1, 1), Float.floatToIntBits(0f));
        due.is("undo()", x.undo(), 1);
        due.is("is back", x.meanWearBits(0, 1), Float.floatToIntBits(0f));
    }

    private void setWearArguments() {
        document.hold("Promise 4", "- `specimen`: number of a specimen");
        DieStudy x = fullOfDifferentOnes();
        due.is("least specimen", x.setWear(0, 0, 3), 0);
        due.is("greatest specimen", x.setWear(23, 0, 3), 5);
        due.is("one too many", x.setWear(24, 0, 3), -1);
        due.is("one too few", x.setWear(-1, 0, 3), -1);
        document.hold("Promise 4", "- `side`: 0 or 1");
        due.is("least side", x.setWear(1, 0, 3), 1);
        due.is("greatest side", x.setWear(23, 1, 0), 3);
        due.is("side 2", x.setWear(0, 2, 3), -1);
        due.is("side -1", x.setWear(1, -1, 3), -1);
        document.hold("Promise 4", "- `wear`: 0 to 5");
        due.is("least wear", x.setWear(1, 0, 0), 3);
        due.is("greatest wear", x.setWear(1, 0, 5), 0);
        due.is("wear 6", x.setWear(1, 0, 6), -1);
        due.is("wear -1", x.setWear(1, 0, -1), -1);
        due.is("the greatest wear stays", x.setWear(1, 0, 1), 5);
    }

    private void setWearAnswersThePreviousWear() {
        document.hold("Promise 4", "Returns the previous wear");
        DieStudy x = Studies.of(11);
        for (int side = 0; side < 2; side++) {
            for (int wear = 1; wear <= 5; wear++) {
                due.is("one more", x.setWear(0, side, wear), wear - 1);
            }
            due.is("back to fresh", x.setWear(0, side, 0), 5);
            due.is("the same again", x.setWear(0, side, 0), 0);
        }
    }

    private void setWearOutOfRange() {
        document.hold("Promise 4", "INVALID_ARGUMENT if an argument is out of range.");
        for (int specimens : new int[] {0, 1, 24}) {
            DieStudy x = Studies.ofOneCouple(specimens);
            for (int specimen : Outside.of(0, specimens - 1)) {
                due.is(specimens + ": specimen " + specimen, x.setWear(specimen, 0, 1), -1);
            }
            for (int side : Outside.ofSides()) {
                due.is(specimens + ": side " + side, x.setWear(0, side, 1), -1);
            }
            for (int wear : Outside.ofWear()) {
                due.is(specimens + ": wear " + wear, x.setWear(0, 0, wear), -1);
                due.is(specimens + ": reverse wear " + wear, x.setWear(0, 1, wear), -1);
            }
        }
    }

    private void mergeDiesChangesAllSpecimens() {
        document.hold("Promise 5", "Declares two dies of one side to be the same: all specimens struck with the one"
                + " are struck with the other one from now on.");
        for (int side = 0; side < 2; side++) {
            DieStudy x = Studies.of(11, 22, 11, 33, 11);
            x.mergeDies(side, 1, 2);
            int[] now = {2, 2, 2, 3, 2};
            int[] otherSide = {1, 2, 1, 3, 1};
            for (int i = 0; i < now.length; i++) {
                due.is("die of " + i, x.dieOf(i, side), now[i]);
                due.is("die of the other side of " + i, x.dieOf(i, 1 - side), otherSide[i]);
            }
            x.addSpecimen(1, 1, 0, 0);
            due.is("a specimen that comes later is none of them", x.dieOf(5, side), 1);
        }
    }

    private void mergeDiesIsAnEdit() {
        document.hold("Promise 5", "This is an edit.");
        DieStudy x = Studies.of(11, 21);
        x.mergeDies(0, 1, 2);
        due.is("undo()", x.undo(), 2);
        due.is("the one that was changed", x.dieOf(0, 0), 1);
        due.is("the one that was not", x.dieOf(1, 0), 2);
    }

    private void mergeDiesArguments() {
        document.hold("Promise 5", "- `side`: 0 or 1");
        DieStudy x = Studies.of(9);
        due.is("side 0", x.mergeDies(0, 0, 5), 1);
        due.is("side 1", x.mergeDies(1, 9, 5), 1);
        due.is("side 2", x.mergeDies(2, 5, 0), -1);
        due.is("side -1", x.mergeDies(-1, 5, 0), -1);
        document.hold("Promise 5", "- `from`: the die that is not used any more, 0 to 9");
        DieStudy y = Studies.of(9, 90);
        due.is("from 0", y.mergeDies(0, 0, 5), 1);
        due.is("from 9", y.mergeDies(0, 9, 5), 1);
        due.is("0 is not used any more", y.frequency(0, 0), 0);
        due.is("9 is not used any more", y.frequency(0, 9), 0);
        due.is("from 10", y.mergeDies(0, 10, 5), -1);
        due.is("from -1", y.mergeDies(0, -1, 5), -1);
        document.hold("Promise 5", "- `to`: the die that takes its place, 0 to 9");
        due.is("to 0", y.mergeDies(0, 5, 0), 2);
        due.is("to 9", y.mergeDies(0, 0, 9), 2);
        due.is("9 takes its place", y.frequency(0, 9), 2);
        due.is("to 10", y.mergeDies(0, 9, 10), -1);
        due.is("to -1", y.mergeDies(0, 9, -1), -1);
    }

    private void mergeDiesAnswersHowManyHaveChanged() {
        document.hold("Promise 5", "Returns the number of specimens that have changed (0 if from equals to)");
        due.is("one of one", Studies.of(11).mergeDies(0, 1, 2), 1);
        due.is("all of 24", Studies.ofOneCouple(24).mergeDies(0, 7, 0), 24);
        due.is("all of 24, into itself", Studies.ofOneCouple(24).mergeDies(0, 7, 7), 0);
        due.is("those of to do not count", Studies.of(11, 21, 21).mergeDies(0, 1, 2), 1);
        for (int die : new int[] {0, 9}) {
            DieStudy x = Studies.of(11 * die);
            due.is("into itself", x.mergeDies(1, die, die), 0);
            due.is("into itself: the die stays", x.dieOf(0, 1), die);
        }
    }

    private void mergeDiesOutOfRange() {
        document.hold("Promise 5", "INVALID_ARGUMENT if an argument is out of range");
        for (DieStudy x : new DieStudy[] {new DieStudy(), Studies.of(0), Studies.ofOneCouple(24)}) {
            for (int side : Outside.ofSides()) {
                due.is("side " + side, x.mergeDies(side, 0, 1), -1);
            }
            for (int die : Outside.ofDies()) {
                due.is("from " + die, x.mergeDies(0, die, 1), -1);
                due.is("to " + die, x.mergeDies(0, 0, die), -1);
                due.is("both " + die, x.mergeDies(1, die, die), -1);
            }
        }
    }

    private void mergeDiesOfAnUnknownDie() {
        document.hold("Promise 5", "NOT_FOUND if the die from is not known.");
        due.is("none is known", new DieStudy().mergeDies(0, 0, 1), -3);
        due.is("none is known, into itself", new DieStudy().mergeDies(0, 0, 0), -3);
        DieStudy x = Studies.of(12);
        due.is("known", x.mergeDies(0, 1, 1), 0);
        due.is("to alone is known", x.mergeDies(0, 3, 1), -3);
        due.is("unknown into itself", x.mergeDies(0, 3, 3), -3);
        due.is("known on the other side alone", x.mergeDies(0, 2, 1), -3);
        due.is("known on the other side alone, into itself", x.mergeDies(1, 1, 1), -3);
        due.is("to need not be known", x.mergeDies(0, 1, 3), 1);
        due.is("merged away", x.mergeDies(0, 1, 3), -3);
        due.is("merged away, into itself", x.mergeDies(0, 1, 1), -3);
        due.is("undo the merging", x.undo(), 2);
        due.is("known again", x.mergeDies(0, 1, 1), 0);
        x.removeSpecimen(0);
        due.is("its only specimen is removed", x.mergeDies(0, 1, 1), -3);
    }

    private void specimenCount() {
        document.hold("Promise 6", "Returns the number of specimens.");
        for (int specimens : new int[] {0, 1, 23, 24}) {
            due.is("specimenCount()", Studies.ofOneCouple(specimens).specimenCount(), specimens);
        }
        DieStudy x = Studies.ofOneCouple(24);
        x.addSpecimen(0, 0, 0, 0);
        due.is("after a refused adding", x.specimenCount(), 24);
        x.removeSpecimen(24);
        due.is("after a refused removal", x.specimenCount(), 24);
        x.mergeDies(0, 7, 8);
        due.is("after a merging", x.specimenCount(), 24);
    }

    private void dieOf() {
        document.hold("Promise 7", "Returns the die of a specimen.");
        due.is("of the only one", Studies.of(12).dieOf(0, 0), 1);
        document.hold("Promise 7", "- `specimen`: number of a specimen");
        DieStudy x = fullOfDifferentOnes();
        due.is("of the first", x.dieOf(0, 0), 0);
        due.is("of the last", x.dieOf(23, 0), 3);
        due.is("of one too many", x.dieOf(24, 0), -1);
        due.is("of one too few", x.dieOf(-1, 0), -1);
        document.hold("Promise 7", "- `side`: 0 or 1");
        due.is("obverse of the last but one", x.dieOf(22, 0), 2);
        due.is("reverse of the last but one", x.dieOf(22, 1), 1);
        due.is("side 2", x.dieOf(22, 2), -1);
        due.is("side -1", x.dieOf(22, -1), -1);
        document.hold("Promise 7", "Returns the number of the die");
        due.is("least die", Studies.of(9).dieOf(0, 0), 0);
        due.is("greatest die", Studies.of(9).dieOf(0, 1), 9);
    }

    private void dieOfOutOfRange() {
        document.hold("Promise 7", "INVALID_ARGUMENT if an argument is out of range.");
        for (int specimens : new int[] {0, 1, 24}) {
            DieStudy x = Studies.ofOneCouple(specimens);
            for (int specimen : Outside.of(0, specimens - 1)) {
                due.is(specimens + ": dieOf " + specimen, x.dieOf(specimen, 0), -1);
                due.is(specimens + ": dieOf " + specimen, x.dieOf(specimen, 1), -1);
            }
            for (int side : Outside.ofSides()) {
                due.is(specimens + ": side " + side, x.dieOf(0, side), -1);
            }
        }
    }
}
