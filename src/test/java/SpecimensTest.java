/** Promises 1 to 7: a new object, the edits, specimenCount and dieOf. */
public final class SpecimensTest {
    private static final Due due = new Due();
    private static final int[] OUTSIDE_DIES = {-1, 10, 11, Integer.MIN_VALUE, Integer.MAX_VALUE};
    private static final int[] OUTSIDE_WEARS = {-1, 6, 7, Integer.MIN_VALUE, Integer.MAX_VALUE};
    private static final int[] OUTSIDE_SIDES = {-1, 2, 3, Integer.MIN_VALUE, Integer.MAX_VALUE};

    public static void main(String[] args) {
        aNewObject();
        newObjectsShareNothing();
        addSpecimen();
        addSpecimenWithWrongArguments();
        addSpecimenToAFullStudy();
        removeSpecimen();
        removeFromAFullStudy();
        setWear();
        setWearWithWrongArguments();
        mergeDies();
        mergeDiesOfOneSideOnly();
        mergeDiesAfterRemoving();
        mergeDiesWithErrors();
        dieOfWithWrongArguments();
        due.end();
    }

    private static void aNewObject() {
        DieStudy x = new DieStudy();
        due.is("new: specimenCount()", x.specimenCount(), 0);
        due.is("new: coupleCount()", x.coupleCount(), 0);
        due.is("new: componentCount()", x.componentCount(), 0);
        due.is("new: cycleRank()", x.cycleRank(), 0);
        due.is("new: bridgeCount()", x.bridgeCount(), 0);
        due.is("new: isConsistent()", x.isConsistent(), 1);
        for (int side = 0; side < 2; side++) {
            due.is("new: dieCount", x.dieCount(side), 0);
            due.is("new: singletons", x.singletons(side), 0);
            due.is("new: frequency", x.frequency(side, 0), 0);
            due.is("new: coverageEstimate", x.coverageEstimate(side), -3);
            due.is("new: frequencyEstimate", x.frequencyEstimate(side), -3);
        }
        due.is("new: undo()", x.undo(), -3);
    }

    private static void newObjectsShareNothing() {
        DieStudy x = new DieStudy();
        DieStudy y = new DieStudy();
        x.addSpecimen(1, 2, 3, 4);
        due.is("other object: specimenCount()", y.specimenCount(), 0);
        due.is("other object: undo()", y.undo(), -3);
        y.addSpecimen(5, 6, 0, 0);
        due.is("first object: dieOf(0, 0)", x.dieOf(0, 0), 1);
    }

    private static void addSpecimen() {
        DieStudy x = new DieStudy();
        due.is("add least", x.addSpecimen(0, 0, 0, 0), 0);
        due.is("add greatest", x.addSpecimen(9, 9, 5, 5), 1);
        due.is("add different", x.addSpecimen(1, 2, 3, 4), 2);
        due.is("add the same again", x.addSpecimen(1, 2, 3, 4), 3);
        due.is("specimenCount()", x.specimenCount(), 4);
        due.is("dieOf(1, 0)", x.dieOf(1, 0), 9);
        due.is("dieOf(1, 1)", x.dieOf(1, 1), 9);
        due.is("dieOf(2, 0)", x.dieOf(2, 0), 1);
        due.is("dieOf(2, 1)", x.dieOf(2, 1), 2);
        due.is("previous obverse wear", x.setWear(2, 0, 0), 3);
        due.is("previous reverse wear", x.setWear(2, 1, 0), 4);
    }

    private static void addSpecimenWithWrongArguments() {
        DieStudy x = new DieStudy();
        x.addSpecimen(1, 1, 1, 1);
        for (int die : OUTSIDE_DIES) {
            due.is("add obverse " + die, x.addSpecimen(die, 0, 0, 0), -1);
            due.is("add reverse " + die, x.addSpecimen(0, die, 0, 0), -1);
        }
        for (int wear : OUTSIDE_WEARS) {
            due.is("add obverse wear " + wear, x.addSpecimen(0, 0, wear, 0), -1);
            due.is("add reverse wear " + wear, x.addSpecimen(0, 0, 0, wear), -1);
        }
        due.is("wrong adds: specimenCount()", x.specimenCount(), 1);
        due.is("wrong adds are no edits: undo()", x.undo(), 0);
    }

    private static void addSpecimenToAFullStudy() {
        DieStudy x = new DieStudy();
        for (int i = 0; i < 24; i++) {
            due.is("add number " + i, x.addSpecimen(i % 10, i / 10, i % 6, i % 5), i);
        }
        due.is("add to 24", x.addSpecimen(0, 0, 0, 0), -2);
        due.is("add to 24 with a wrong die", x.addSpecimen(10, 0, 0, 0), -1);
        due.is("add to 24 with a wrong wear", x.addSpecimen(0, 0, 0, 6), -1);
        due.is("full: specimenCount()", x.specimenCount(), 24);
        due.is("full: undo() undoes the 24th", x.undo(), 4);
        due.is("after undo: specimenCount()", x.specimenCount(), 23);
        due.is("add again", x.addSpecimen(0, 0, 0, 0), 23);
    }

    private static DieStudy fourSpecimens() {
        DieStudy x = new DieStudy();
        x.addSpecimen(0, 5, 0, 1);
        x.addSpecimen(1, 6, 1, 2);
        x.addSpecimen(2, 7, 2, 3);
        x.addSpecimen(3, 8, 3, 4);
        return x;
    }

    private static void removeSpecimen() {
        DieStudy x = fourSpecimens();
        due.is("remove none such", x.removeSpecimen(4), -1);
        due.is("remove negative", x.removeSpecimen(-1), -1);
        due.is("remove greatest int", x.removeSpecimen(Integer.MAX_VALUE), -1);
        due.is("remove least int", x.removeSpecimen(Integer.MIN_VALUE), -1);
        due.is("remove(1)", x.removeSpecimen(1), 3);
        due.is("below stays", x.dieOf(0, 0), 0);
        due.is("moved down, obverse", x.dieOf(1, 0), 2);
        due.is("moved down, reverse", x.dieOf(1, 1), 7);
        due.is("moved down, last", x.dieOf(2, 0), 3);
        due.is("no fourth now", x.dieOf(3, 0), -1);
        due.is("moved wear, obverse", x.setWear(1, 0, 0), 2);
        due.is("moved wear, reverse", x.setWear(2, 1, 0), 4);
        due.is("remove last", x.removeSpecimen(2), 2);
        due.is("remove first", x.removeSpecimen(0), 1);
        due.is("remove only one", x.removeSpecimen(0), 0);
        due.is("remove from none", x.removeSpecimen(0), -1);
        due.is("add after all are gone", x.addSpecimen(4, 4, 4, 4), 0);
    }

    private static void removeFromAFullStudy() {
        DieStudy x = new DieStudy();
        for (int i = 0; i < 24; i++) {
            x.addSpecimen(i % 10, i / 3, i % 6, i % 5);
        }
        due.is("merge in a full study", x.mergeDies(0, 3, 4), 3);
        due.is("undo()", x.undo(), 4);
        for (int left = 23; left >= 0; left--) {
            int gone = 23 - left;
            due.is("full: remove(0)", x.removeSpecimen(0), left);
            due.is("full: first obverse", x.dieOf(0, 0), left == 0 ? -1 : (gone + 1) % 10);
            due.is("full: last reverse", x.dieOf(left - 1, 1), left == 0 ? -1 : 7);
        }
    }

    private static void setWear() {
        DieStudy x = fourSpecimens();
        due.is("setWear(2, 0, 5)", x.setWear(2, 0, 5), 2);
        due.is("setWear(2, 0, 0)", x.setWear(2, 0, 0), 5);
        due.is("setWear(2, 1, 5)", x.setWear(2, 1, 5), 3);
        due.is("setWear(2, 0, 0) again", x.setWear(2, 0, 0), 0);
        due.is("neighbour below", x.setWear(1, 1, 2), 2);
        due.is("neighbour above", x.setWear(3, 0, 3), 3);
        due.is("dies stay", x.dieOf(2, 1), 7);
    }

    private static void setWearWithWrongArguments() {
        DieStudy x = fourSpecimens();
        for (int specimen : new int[] {-1, 4, 24, Integer.MIN_VALUE, Integer.MAX_VALUE}) {
            due.is("setWear specimen " + specimen, x.setWear(specimen, 0, 0), -1);
        }
        for (int side : OUTSIDE_SIDES) {
            due.is("setWear side " + side, x.setWear(0, side, 0), -1);
        }
        for (int wear : OUTSIDE_WEARS) {
            due.is("setWear wear " + wear, x.setWear(0, 0, wear), -1);
        }
        due.is("nothing was set", x.setWear(0, 1, 1), 1);
        due.is("wrong calls are no edits", x.undo(), 4);
    }

    private static void mergeDies() {
        DieStudy x = new DieStudy();
        x.addSpecimen(1, 4, 0, 0);
        x.addSpecimen(2, 5, 0, 0);
        x.addSpecimen(1, 6, 0, 0);
        due.is("mergeDies(0, 1, 2)", x.mergeDies(0, 1, 2), 2);
        due.is("frequency of from", x.frequency(0, 1), 0);
        due.is("frequency of to", x.frequency(0, 2), 3);
        due.is("dieOf(0, 0)", x.dieOf(0, 0), 2);
        due.is("dieOf(2, 0)", x.dieOf(2, 0), 2);
        due.is("merge into an unknown die", x.mergeDies(1, 5, 9), 1);
        due.is("dieOf(1, 1)", x.dieOf(1, 1), 9);
        due.is("merge with itself", x.mergeDies(0, 2, 2), 0);
        due.is("merge with itself changes nothing", x.frequency(0, 2), 3);
        due.is("merge with itself is an edit", x.undo(), 4);
        due.is("merge again", x.mergeDies(0, 1, 2), -3);
    }

    private static void mergeDiesOfOneSideOnly() {
        DieStudy x = new DieStudy();
        x.addSpecimen(3, 3, 1, 2);
        x.addSpecimen(4, 3, 3, 4);
        due.is("mergeDies(1, 3, 4)", x.mergeDies(1, 3, 4), 2);
        due.is("obverse stays", x.dieOf(0, 0), 3);
        due.is("reverse changes", x.dieOf(0, 1), 4);
        due.is("wear stays", x.setWear(0, 1, 0), 2);
        due.is("known on the obverse, not on the reverse", x.mergeDies(1, 3, 4), -3);
        due.is("known on the obverse", x.mergeDies(0, 3, 4), 1);
    }

    private static void mergeDiesAfterRemoving() {
        DieStudy x = new DieStudy();
        x.addSpecimen(1, 1, 0, 0);
        x.addSpecimen(1, 2, 0, 0);
        x.removeSpecimen(1);
        due.is("merge counts no specimen that is gone", x.mergeDies(0, 1, 2), 1);
        x.removeSpecimen(0);
        due.is("merge a die that is gone", x.mergeDies(0, 2, 1), -3);
    }

    private static void mergeDiesWithErrors() {
        DieStudy x = new DieStudy();
        x.addSpecimen(0, 0, 0, 0);
        for (int side : OUTSIDE_SIDES) {
            due.is("merge side " + side, x.mergeDies(side, 0, 1), -1);
        }
        for (int die : OUTSIDE_DIES) {
            due.is("merge from " + die, x.mergeDies(0, die, 1), -1);
            due.is("merge to " + die, x.mergeDies(0, 0, die), -1);
            due.is("merge unknown to " + die, x.mergeDies(1, 5, die), -1);
        }
        due.is("merge unknown", x.mergeDies(0, 5, 0), -3);
        due.is("merge unknown with itself", x.mergeDies(0, 5, 5), -3);
        due.is("wrong merges are no edits", x.undo(), 0);
    }

    private static void dieOfWithWrongArguments() {
        DieStudy x = fourSpecimens();
        for (int specimen : new int[] {-1, 4, 24, Integer.MIN_VALUE, Integer.MAX_VALUE}) {
            due.is("dieOf specimen " + specimen, x.dieOf(specimen, 0), -1);
        }
        for (int side : OUTSIDE_SIDES) {
            due.is("dieOf side " + side, x.dieOf(0, side), -1);
        }
    }
}
