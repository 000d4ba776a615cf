/** The boundary cases of promise 25, of the edits and of the number of calls. */
final class BoundariesOfHistory {
    private final Due due;
    private final Sentences document;

    BoundariesOfHistory(Due due, Sentences document) {
        this.due = due;
        this.document = document;
    }

    void run() {
        theFourEdits();
        lastFiveEdits();
        editsAfterUndoing();
        editsThatChangeNothing();
        undoTakesTheLatest();
        undoAnswersHowManyAreLeft();
        undoWithoutAnyEdit();
        undoToFullAndToEmpty();
        fiveHundredAndTwelveCalls();
    }

    private void theFourEdits() {
        document.hold("Description", "addSpecimen, removeSpecimen, setWear and mergeDies are edits.");
        DieStudy x = new DieStudy();
        x.addSpecimen(1, 1, 1, 1);
        x.setWear(0, 0, 2);
        x.mergeDies(0, 1, 2);
        x.removeSpecimen(0);
        for (int left = 3; left >= 0; left--) {
            due.is("undo() of four", x.undo(), left);
        }
        due.is("undo() is none", x.undo(), -3);
    }

    private void undoAll(String where, DieStudy x, int edits) {
        for (int left = edits - 1; left >= 0; left--) {
            due.is(where + ": undo()", x.undo(), left);
        }
        due.is(where + ": no more", x.undo(), -3);
    }

    private void lastFiveEdits() {
        document.hold("Description", "The last 5 edits can be undone.");
        for (int edits = 0; edits <= 24; edits++) {
            DieStudy x = Studies.ofOneCouple(edits);
            undoAll(edits + " edits", x, Math.min(5, edits));
            due.is(edits + " edits: what stays", x.specimenCount(), Math.max(0, edits - 5));
        }
    }

    /** An edit that has been undone takes no place among the five. */
    private void editsAfterUndoing() {
        document.hold("Description", "The last 5 edits can be undone.");
        for (int edits = 1; edits <= 12; edits++) {
            for (int undone = 0; undone <= Math.min(5, edits); undone++) {
                for (int more = 0; more <= 6; more++) {
                    DieStudy x = Studies.ofOneCouple(edits);
                    for (int i = 0; i < undone; i++) {
                        x.undo();
                    }
                    for (int i = 0; i < more; i++) {
                        x.addSpecimen(1, 1, 0, 0);
                    }
                    String where = edits + " edits, " + undone + " undone, " + more + " more";
                    int can = Math.min(5, Math.min(5, edits) - undone + more);
                    undoAll(where, x, can);
                    due.is(where + ": what stays", x.specimenCount(), edits - undone + more - can);
                }
            }
        }
    }

    private void editsThatChangeNothing() {
        document.hold("Description", "An edit that changes nothing is an edit, too.");
        for (int idle = 0; idle <= 6; idle++) {
            DieStudy x = Studies.of(11, 22, 33, 44, 55);
            for (int i = 0; i < idle; i++) {
                due.is("changes nothing", i % 2 == 0 ? x.setWear(0, 0, 0) : x.mergeDies(1, 1, 1), 0);
            }
            undoAll(idle + " that change nothing", x, 5);
            due.is(idle + " that change nothing: what stays", x.specimenCount(), Math.min(5, idle));
        }
        DieStudy x = Studies.of(11);
        x.mergeDies(0, 1, 1);
        due.is("undo() of a merging with itself", x.undo(), 1);
        x.setWear(0, 1, 0);
        due.is("undo() of the same wear", x.undo(), 1);
        due.is("the specimen stays", x.specimenCount(), 1);
    }

    private void undoTakesTheLatest() {
        document.hold("Promise 25", "Undoes the latest edit that has not been undone.");
        DieStudy x = Studies.of(11, 22);
        x.undo();
        due.is("the first stays", x.dieOf(0, 0), 1);
        due.is("the second is gone", x.dieOf(1, 0), -1);
        x.addSpecimen(3, 3, 0, 0);
        x.undo();
        due.is("the third is gone", x.dieOf(1, 0), -1);
        due.is("the first stays still", x.dieOf(0, 0), 1);
        due.is("undoing is no edit, so the first is next", x.undo(), 0);
        due.is("the first is gone", x.specimenCount(), 0);
    }

    private void undoAnswersHowManyAreLeft() {
        document.hold("Promise 25", "Returns the number of edits that can still be undone");
        due.is("of one", Studies.ofOneCouple(1).undo(), 0);
        due.is("of five", Studies.ofOneCouple(5).undo(), 4);
        due.is("of six", Studies.ofOneCouple(6).undo(), 4);
        due.is("of 24", Studies.ofOneCouple(24).undo(), 4);
        DieStudy x = Studies.ofOneCouple(24);
        x.addSpecimen(0, 0, 0, 0);
        due.is("of 24 and a refused one", x.undo(), 4);
        due.is("which undoes the 24th", x.specimenCount(), 23);
    }

    private void undoWithoutAnyEdit() {
        document.hold("Promise 25", "NOT_FOUND if there is none.");
        DieStudy x = new DieStudy();
        due.is("new", x.undo(), -3);
        due.is("new, again", x.undo(), -3);
        x.addSpecimen(10, 0, 0, 0);
        x.removeSpecimen(0);
        x.setWear(0, 0, 0);
        x.mergeDies(0, 0, 0);
        due.is("after refused edits alone", x.undo(), -3);
        x.addSpecimen(1, 1, 1, 1);
        due.is("one", x.undo(), 0);
        due.is("none again", x.undo(), -3);
        x.addSpecimen(1, 1, 1, 1);
        due.is("a refused undoing takes no place", x.undo(), 0);
    }

    private void undoToFullAndToEmpty() {
        document.hold("Promise 25", "Undoes the latest edit that has not been undone.");
        DieStudy x = Studies.toAndFro();
        for (int i = 0; i < 5; i++) {
            x.removeSpecimen(0);
        }
        undoAll("five removals", x, 5);
        due.is("full again", x.specimenCount(), 24);
        due.is("full again: no room", x.addSpecimen(0, 0, 0, 0), -2);
        for (int i = 0; i < 24; i++) {
            due.is("full again: die of " + i, x.dieOf(i, 1), Studies.coupleToAndFro(i) % 6);
            due.is("full again: generation", x.generation(Studies.coupleToAndFro(i)), i);
        }
        DieStudy y = Studies.ofOneCouple(5);
        undoAll("five specimens", y, 5);
        due.is("empty again", y.specimenCount(), 0);
        due.is("empty again: no specimen", y.removeSpecimen(0), -1);
        due.is("empty again: couples", y.coupleCount(), 0);
    }

    private void fiveHundredAndTwelveCalls() {
        document.hold("What it is", "An object is used for at most 512 calls after it has been made");
        DieStudy x = new DieStudy();
        due.is("call 1", x.addSpecimen(2, 2, 0, 0), 0);
        for (int call = 2; call <= 509; call++) {
            due.is("call " + call, x.setWear(0, 0, (call - 1) % 6), (call - 2) % 6);
        }
        due.is("call 510", x.undo(), 4);
        due.is("call 511", x.setWear(0, 0, 5), 507 % 6);
        due.is("call 512", x.undo(), 4);
        DieStudy y = new DieStudy();
        for (int call = 1; call <= 512; call += 2) {
            due.is("call " + call, y.addSpecimen(2, 2, 0, 0), 0);
            due.is("call " + (call + 1), y.removeSpecimen(0), 0);
        }
    }
}
