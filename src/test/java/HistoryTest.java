/** Promise 25: undo. */
public final class HistoryTest {
    private static final Due due = new Due();

    public static void main(String[] args) {
        nothingToUndo();
        eachKindOfEdit();
        fiveEditsAtMost();
        editsAfterUndoing();
        editsThatChangeNothing();
        askingIsNoEdit();
        manyTimesRound();
        due.end();
    }

    private static void nothingToUndo() {
        DieStudy x = new DieStudy();
        due.is("new: undo()", x.undo(), -3);
        due.is("new: undo() again", x.undo(), -3);
        x.addSpecimen(0, 0, 0, 0);
        due.is("undo()", x.undo(), 0);
        due.is("specimenCount()", x.specimenCount(), 0);
        due.is("undo() of none", x.undo(), -3);
    }

    private static void eachKindOfEdit() {
        DieStudy x = new DieStudy();
        x.addSpecimen(1, 2, 3, 4);
        x.addSpecimen(5, 6, 2, 1);
        x.setWear(0, 1, 0);
        x.mergeDies(0, 1, 5);
        x.removeSpecimen(0);
        due.is("undo removeSpecimen", x.undo(), 4);
        due.is("specimenCount()", x.specimenCount(), 2);
        due.is("dieOf(0, 0)", x.dieOf(0, 0), 5);
        due.is("dieOf(0, 1)", x.dieOf(0, 1), 2);
        due.is("dieOf(1, 1)", x.dieOf(1, 1), 6);
        due.is("undo mergeDies", x.undo(), 3);
        due.is("dieOf(0, 0)", x.dieOf(0, 0), 1);
        due.is("dieOf(1, 0)", x.dieOf(1, 0), 5);
        due.is("undo setWear", x.undo(), 2);
        due.is("wear is back", x.setWear(0, 1, 4), 4);
        due.is("undo setWear", x.undo(), 2);
        due.is("undo addSpecimen", x.undo(), 1);
        due.is("specimenCount()", x.specimenCount(), 1);
        due.is("obverse wear of the first", x.meanWearBits(0, 1), Float.floatToIntBits(3f));
    }

    private static void fiveEditsAtMost() {
        DieStudy x = new DieStudy();
        for (int i = 0; i < 8; i++) {
            x.addSpecimen(i, i, 0, 0);
        }
        for (int left = 4; left >= 0; left--) {
            due.is("undo()", x.undo(), left);
            due.is("specimenCount()", x.specimenCount(), 3 + left);
        }
        due.is("undo() of the sixth", x.undo(), -3);
        due.is("specimenCount()", x.specimenCount(), 3);
    }

    private static void editsAfterUndoing() {
        DieStudy x = new DieStudy();
        for (int i = 0; i < 7; i++) {
            x.addSpecimen(i, i, 0, 0);
        }
        due.is("undo()", x.undo(), 4);
        due.is("undo()", x.undo(), 3);
        due.is("add behind undo", x.addSpecimen(9, 9, 0, 0), 5);
        due.is("undo() of the new one", x.undo(), 3);
        due.is("dieOf(4, 0)", x.dieOf(4, 0), 4);
        due.is("undo() of the fifth", x.undo(), 2);
        due.is("undo()", x.undo(), 1);
        due.is("undo()", x.undo(), 0);
        due.is("undo()", x.undo(), -3);
        due.is("specimenCount()", x.specimenCount(), 2);
    }

    private static void editsThatChangeNothing() {
        DieStudy x = new DieStudy();
        x.addSpecimen(1, 1, 1, 1);
        x.setWear(0, 0, 1);
        x.mergeDies(1, 1, 1);
        due.is("undo mergeDies", x.undo(), 2);
        due.is("undo setWear", x.undo(), 1);
        due.is("specimenCount()", x.specimenCount(), 1);
        due.is("undo addSpecimen", x.undo(), 0);
        due.is("specimenCount()", x.specimenCount(), 0);
    }

    private static void askingIsNoEdit() {
        DieStudy x = new DieStudy();
        x.addSpecimen(1, 1, 1, 1);
        x.addSpecimen(1, 2, 3, 1);
        for (int side = 0; side < 2; side++) {
            x.dieCount(side);
            x.dieOf(0, side);
            x.frequency(side, 1);
            x.meanWearBits(side, 1);
            x.componentSize(side, 1);
            x.singletons(side);
            x.coverageEstimate(side);
            x.frequencyEstimate(side);
        }
        x.specimenCount();
        x.coupleCount();
        x.coupleAt(0);
        x.componentCount();
        x.cycleRank();
        x.bridgeCount();
        x.isBridge(0);
        x.compareCouples(0, 1);
        x.isConsistent();
        x.coupleInOrder(0);
        x.generation(0);
        due.is("undo()", x.undo(), 1);
        due.is("undo()", x.undo(), 0);
        due.is("undo()", x.undo(), -3);
    }

    private static void manyTimesRound() {
        DieStudy x = new DieStudy();
        x.addSpecimen(0, 0, 0, 0);
        for (int i = 1; i < 60; i++) {
            due.is("setWear " + i, x.setWear(0, 0, i % 6), (i - 1) % 6);
        }
        for (int i = 58; i >= 54; i--) {
            due.is("undo to " + i, x.undo(), i - 54);
            due.is("wear " + i, x.meanWearBits(0, 0), Float.floatToIntBits(i % 6));
        }
        due.is("undo()", x.undo(), -3);
    }
}
