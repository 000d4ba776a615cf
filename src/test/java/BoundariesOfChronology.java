/** The boundary cases of promises 18 to 21: compareCouples, isConsistent, coupleInOrder and generation. */
final class BoundariesOfChronology {
    private final Due due;
    private final Sentences document;

    BoundariesOfChronology(Due due, Sentences document) {
        this.due = due;
        this.document = document;
    }

    void run() {
        compareCouples();
        compareCouplesAnswers();
        compareCouplesOutOfRange();
        isConsistent();
        coupleInOrder();
        coupleInOrderOutOfRange();
        coupleInOrderOfAContradiction();
        generation();
        generationOutOfRange();
        generationOfAContradiction();
    }

    private void compareCouples() {
        document.hold("Promise 18", "Compares two couples by the die that they share.");
        DieStudy x = new DieStudy();
        x.addSpecimen(5, 0, 1, 5);
        x.addSpecimen(5, 1, 2, 4);
        due.is("by the obverse, not by the reverse dies", x.compareCouples(0, 1), 1);
        DieStudy y = new DieStudy();
        y.addSpecimen(0, 5, 5, 1);
        y.addSpecimen(1, 5, 4, 2);
        due.is("by the reverse, not by the obverse dies", y.compareCouples(0, 1), 1);
        document.hold("Promise 18", "- `first`: number of a couple");
        DieStudy z = Studies.toAndFro();
        due.is("first is 0", z.compareCouples(0, 1), 1);
        due.is("first is 23", z.compareCouples(23, 22), 1);
        due.is("first is 24", z.compareCouples(24, 22), -1);
        due.is("first is -1", z.compareCouples(-1, 22), -1);
        document.hold("Promise 18", "- `second`: number of a couple");
        due.is("second is 0", z.compareCouples(1, 0), 2);
        due.is("second is 23", z.compareCouples(22, 23), 2);
        due.is("second is 24", z.compareCouples(22, 24), -1);
        due.is("second is -1", z.compareCouples(22, -1), -1);
    }

    private void compareCouplesAnswers() {
        document.hold("Promise 18", "Returns 1 if the first one is earlier than the second one,"
                + " 2 if the second one is earlier than the first one, 0 if neither is so or they share no die");
        DieStudy x = new DieStudy();
        x.addSpecimen(5, 0, 1, 0);
        x.addSpecimen(5, 1, 0, 0);
        x.addSpecimen(5, 2, 1, 0);
        x.addSpecimen(6, 3, 5, 5);
        due.is("the second is earlier", x.compareCouples(0, 1), 2);
        due.is("the first is earlier", x.compareCouples(1, 0), 1);
        due.is("neither is so", x.compareCouples(0, 2), 0);
        due.is("neither is so, turned", x.compareCouples(2, 0), 0);
        due.is("they share no die", x.compareCouples(1, 3), 0);
        due.is("they share no die, turned", x.compareCouples(3, 1), 0);
        due.is("in a contradiction, too", Studies.ringOfFour().compareCouples(0, 1), 1);
    }

    private void compareCouplesOutOfRange() {
        document.hold("Promise 18", "INVALID_ARGUMENT if there is no such couple or both are the same.");
        for (DieStudy x : new DieStudy[] {new DieStudy(), Studies.ofOneCouple(24), Studies.of(12, 13), Studies.toAndFro()}) {
            int couples = x.coupleCount();
            for (int couple : Outside.of(0, couples - 1)) {
                due.is(couples + ": first " + couple, x.compareCouples(couple, 0), -1);
                due.is(couples + ": second " + couple, x.compareCouples(0, couple), -1);
                due.is(couples + ": both " + couple, x.compareCouples(couple, couple), -1);
            }
            for (int couple = 0; couple < couples; couple++) {
                due.is(couples + ": the same " + couple, x.compareCouples(couple, couple), -1);
            }
        }
        DieStudy y = Studies.of(12, 13);
        due.is("two couples", y.compareCouples(0, 1), 0);
        y.mergeDies(1, 3, 2);
        due.is("one couple is left", y.compareCouples(0, 1), -1);
        y.undo();
        due.is("two couples again", y.compareCouples(0, 1), 0);
    }

    private void isConsistent() {
        document.hold("Promise 19", "Returns 1 if the chronology is consistent, 0 if not.");
        due.is("empty", new DieStudy().isConsistent(), 1);
        due.is("one couple", Studies.ofOneCouple(24).isConsistent(), 1);
        due.is("24 couples one after the other", Studies.toAndFro().isConsistent(), 1);
        due.is("the least ring", Studies.ringOfFour().isConsistent(), 0);
        due.is("all but one of the greatest ring", Studies.ringOfAllDies(19).isConsistent(), 1);
        due.is("the greatest ring", Studies.ringOfAllDies(20).isConsistent(), 0);
        due.is("a ring without any wear", Studies.of(0, 1, 10, 11).isConsistent(), 1);
    }

    private void coupleInOrder() {
        document.hold("Promise 20", "Returns a couple of the chronological order.");
        due.is("the only one", Studies.ofOneCouple(24).coupleInOrder(0), 0);
        document.hold("Promise 20", "- `place`: 0 or more");
        DieStudy x = Studies.toAndFro();
        due.is("place 0", x.coupleInOrder(0), 0);
        due.is("place 23", x.coupleInOrder(23), 18);
        due.is("place -1", x.coupleInOrder(-1), -1);
        document.hold("Promise 20", "Returns the number of the couple");
        for (int place = 0; place < 24; place++) {
            due.is("place " + place, x.coupleInOrder(place), Studies.coupleToAndFro(place));
        }
    }

    private void coupleInOrderOutOfRange() {
        for (DieStudy x : new DieStudy[] {new DieStudy(), Studies.ofOneCouple(24), Studies.toAndFro()}) {
            int couples = x.coupleCount();
            document.hold("Promise 20", "INVALID_ARGUMENT if place is negative");
            for (int place : Outside.below(0)) {
                due.is("place " + place, x.coupleInOrder(place), -1);
            }
            document.hold("Promise 20", "NOT_FOUND if there are not so many couples");
            for (int place : Outside.above(couples - 1)) {
                due.is("place " + place, x.coupleInOrder(place), -3);
            }
        }
    }

    private void coupleInOrderOfAContradiction() {
        document.hold("Promise 20", "CONTRADICTION if the chronology is not consistent.");
        DieStudy x = Studies.ringOfAllDies(20);
        for (int place = 0; place < 20; place++) {
            due.is("greatest ring: place " + place, x.coupleInOrder(place), -4);
        }
        due.is("greatest ring: place 20", x.coupleInOrder(20), -3);
        due.is("greatest ring: place -1", x.coupleInOrder(-1), -1);
        x.setWear(0, 1, 0);
        for (int place = 0; place < 20; place++) {
            due.is("opened: place " + place, x.coupleInOrder(place), place == 19 ? 18 : place == 18 ? 19 : place);
        }
        x.undo();
        due.is("closed again: place 0", x.coupleInOrder(0), -4);
    }

    private void generation() {
        document.hold("Promise 21", "Returns the generation of a couple.");
        due.is("the only one", Studies.ofOneCouple(24).generation(0), 0);
        document.hold("Promise 21", "- `couple`: 0 or more");
        DieStudy x = Studies.toAndFro();
        due.is("couple 0", x.generation(0), 0);
        due.is("couple 23", x.generation(23), 18);
        due.is("couple -1", x.generation(-1), -1);
        document.hold("Promise 21", "Returns the generation");
        for (int i = 0; i < 24; i++) {
            due.is("couple " + Studies.coupleToAndFro(i), x.generation(Studies.coupleToAndFro(i)), i);
        }
    }

    private void generationOutOfRange() {
        for (DieStudy x : new DieStudy[] {new DieStudy(), Studies.ofOneCouple(24), Studies.toAndFro()}) {
            int couples = x.coupleCount();
            document.hold("Promise 21", "INVALID_ARGUMENT if couple is negative");
            for (int couple : Outside.below(0)) {
                due.is("couple " + couple, x.generation(couple), -1);
            }
            document.hold("Promise 21", "NOT_FOUND if there is no such couple");
            for (int couple : Outside.above(couples - 1)) {
                due.is("couple " + couple, x.generation(couple), -3);
            }
        }
    }

    private void generationOfAContradiction() {
        document.hold("Promise 21", "CONTRADICTION if the chronology is not consistent.");
        DieStudy x = Studies.ringOfFour();
        x.addSpecimen(5, 5, 0, 0);
        for (int couple = 0; couple < 5; couple++) {
            due.is("least ring and one beside it: couple " + couple, x.generation(couple), -4);
        }
        due.is("least ring: couple 5", x.generation(5), -3);
        due.is("least ring: couple -1", x.generation(-1), -1);
        x.removeSpecimen(0);
        due.is("opened: couple 0", x.generation(0), 0);
        x.undo();
        due.is("closed again: couple 0", x.generation(0), -4);
    }
}
