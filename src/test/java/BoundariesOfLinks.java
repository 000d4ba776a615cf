/** The boundary cases of promises 11 to 17: the couples and the link graph. */
final class BoundariesOfLinks {
    private final Due due;
    private final Sentences document;

    BoundariesOfLinks(Due due, Sentences document) {
        this.due = due;
        this.document = document;
    }

    void run() {
        coupleCount();
        coupleAt();
        coupleAtOutOfRange();
        componentCount();
        componentSize();
        componentSizeOutOfRange();
        componentSizeOfAnUnknownDie();
        cycleRank();
        bridgeCount();
        isBridge();
        isBridgeOutOfRange();
    }

    /** Ten couples that share no die. */
    private static DieStudy tenComponents() {
        return Studies.of(9, 18, 27, 36, 45, 54, 63, 72, 81, 90);
    }

    private void coupleCount() {
        document.hold("Promise 11", "Returns the number of couples.");
        due.is("empty", new DieStudy().coupleCount(), 0);
        due.is("one specimen", Studies.of(0).coupleCount(), 1);
        due.is("24 specimens of one couple", Studies.ofOneCouple(24).coupleCount(), 1);
        DieStudy x = Studies.toAndFro();
        due.is("24 couples", x.coupleCount(), 24);
        x.addSpecimen(9, 9, 0, 0);
        due.is("24 couples and a refused specimen", x.coupleCount(), 24);
        x.mergeDies(0, 3, 2);
        due.is("six couples less by a merging", x.coupleCount(), 18);
        x.undo();
        due.is("24 couples again", x.coupleCount(), 24);
        x.removeSpecimen(23);
        due.is("23 couples", x.coupleCount(), 23);
    }

    private void coupleAt() {
        document.hold("Promise 12", "Returns a couple.");
        due.is("the only one", Studies.ofOneCouple(24).coupleAt(0), 73);
        document.hold("Promise 12", "- `couple`: 0 or more");
        DieStudy x = Studies.toAndFro();
        due.is("the first", x.coupleAt(0), 0);
        due.is("the last", x.coupleAt(23), 35);
        due.is("-1", x.coupleAt(-1), -1);
        document.hold("Promise 12", "Returns 10 times the obverse die plus the reverse die");
        DieStudy y = Studies.of(99, 90, 9, 0);
        int[] couples = {0, 9, 90, 99};
        for (int i = 0; i < couples.length; i++) {
            due.is("couple " + i, y.coupleAt(i), couples[i]);
        }
    }

    private void coupleAtOutOfRange() {
        for (DieStudy x : new DieStudy[] {new DieStudy(), Studies.ofOneCouple(24), Studies.toAndFro()}) {
            int couples = x.coupleCount();
            document.hold("Promise 12", "INVALID_ARGUMENT if couple is negative");
            for (int couple : Outside.below(0)) {
                due.is("coupleAt " + couple, x.coupleAt(couple), -1);
            }
            document.hold("Promise 12", "NOT_FOUND if there is no such couple.");
            for (int couple : Outside.above(couples - 1)) {
                due.is("coupleAt " + couple, x.coupleAt(couple), -3);
            }
        }
        DieStudy y = Studies.toAndFro();
        due.is("there is a 24th", y.coupleAt(23), 35);
        y.mergeDies(0, 3, 2);
        due.is("there is an 18th", y.coupleAt(17), 25);
        due.is("there is no 19th any more", y.coupleAt(18), -3);
    }

    private void componentCount() {
        document.hold("Promise 13", "Returns the number of components of the link graph");
        due.is("one couple", Studies.ofOneCouple(24).componentCount(), 1);
        due.is("24 couples in one", Studies.toAndFro().componentCount(), 1);
        DieStudy x = tenComponents();
        due.is("ten", x.componentCount(), 10);
        x.addSpecimen(0, 8, 0, 0);
        due.is("nine", x.componentCount(), 9);
        due.is("one through all dies", Studies.ringOfAllDies(19).componentCount(), 1);
        document.hold("Promise 13", "0 if there are no specimens.");
        due.is("empty", new DieStudy().componentCount(), 0);
        due.is("one", Studies.of(0).componentCount(), 1);
        DieStudy y = Studies.of(55, 66);
        y.removeSpecimen(0);
        y.removeSpecimen(0);
        due.is("empty again", y.componentCount(), 0);
    }

    private void componentSize() {
        document.hold("Promise 14", "Counts the dies in the component of a die.");
        due.is("least", Studies.ofOneCouple(24).componentSize(0, 7), 2);
        document.hold("Promise 14", "Returns the number of dies of both sides in the component");
        DieStudy path = Studies.ringOfAllDies(19);
        DieStudy parted = Studies.ringOfAllDies(19);
        parted.removeSpecimen(8);
        for (int die = 0; die < 10; die++) {
            due.is("all dies: obverse " + die, path.componentSize(0, die), 20);
            due.is("all dies: reverse " + die, path.componentSize(1, die), 20);
            due.is("two parts: obverse " + die, parted.componentSize(0, die), die < 4 ? 9 : 11);
            due.is("two parts: reverse " + die, parted.componentSize(1, die), die < 5 ? 9 : 11);
            due.is("ten: obverse " + die, tenComponents().componentSize(0, die), 2);
        }
        document.hold("Promise 14", "- `side`: 0 or 1");
        DieStudy x = Studies.of(12, 13, 40);
        due.is("side 0", x.componentSize(0, 1), 3);
        due.is("side 1", x.componentSize(1, 0), 2);
        document.hold("Promise 14", "- `die`: 0 to 9");
        DieStudy y = Studies.of(9, 90, 91);
        due.is("obverse 0", y.componentSize(0, 0), 2);
        due.is("obverse 9", y.componentSize(0, 9), 3);
        due.is("reverse 0", y.componentSize(1, 0), 3);
        due.is("reverse 9", y.componentSize(1, 9), 2);
    }

    private void componentSizeOutOfRange() {
        document.hold("Promise 14", "INVALID_ARGUMENT if an argument is out of range");
        for (DieStudy x : new DieStudy[] {new DieStudy(), Studies.of(0, 9, 90, 99), Studies.toAndFro()}) {
            for (int side : Outside.ofSides()) {
                due.is("side " + side, x.componentSize(side, 0), -1);
                due.is("side " + side, x.componentSize(side, 8), -1);
            }
            for (int die : Outside.ofDies()) {
                due.is("obverse die " + die, x.componentSize(0, die), -1);
                due.is("reverse die " + die, x.componentSize(1, die), -1);
            }
        }
    }

    private void componentSizeOfAnUnknownDie() {
        document.hold("Promise 14", "NOT_FOUND if the die is not known.");
        due.is("empty", new DieStudy().componentSize(0, 0), -3);
        DieStudy x = Studies.of(12);
        due.is("known", x.componentSize(0, 1), 2);
        due.is("known on the other side alone", x.componentSize(1, 1), -3);
        x.mergeDies(0, 1, 4);
        due.is("merged away", x.componentSize(0, 1), -3);
        due.is("merged into", x.componentSize(0, 4), 2);
        x.undo();
        due.is("known again", x.componentSize(0, 1), 2);
        x.removeSpecimen(0);
        due.is("its only specimen is removed", x.componentSize(0, 1), -3);
    }

    private void cycleRank() {
        document.hold("Promise 15", "Returns the cycle rank of the link graph.");
        due.is("empty", new DieStudy().cycleRank(), 0);
        due.is("one couple of 24 specimens", Studies.ofOneCouple(24).cycleRank(), 0);
        due.is("ten components", tenComponents().cycleRank(), 0);
        due.is("a path through all dies", Studies.ringOfAllDies(19).cycleRank(), 0);
        due.is("a ring through all dies", Studies.ringOfAllDies(20).cycleRank(), 1);
        due.is("three of the least ring", Studies.of(0, 1, 10).cycleRank(), 0);
        due.is("the least ring", Studies.of(0, 1, 10, 11).cycleRank(), 1);
        due.is("two rings apart", Studies.of(0, 1, 10, 11, 22, 23, 32, 33).cycleRank(), 2);
        due.is("24 couples of 10 dies", fiveByFive().cycleRank(), 15);
    }

    /** 24 of the 25 couples of five obverse and five reverse dies: the greatest cycle rank that there is. */
    private static DieStudy fiveByFive() {
        DieStudy x = new DieStudy();
        for (int i = 0; i < 24; i++) {
            x.addSpecimen(5 + i / 5, 5 + i % 5, 0, 0);
        }
        return x;
    }

    private void bridgeCount() {
        document.hold("Promise 16", "Returns the number of bridges.");
        due.is("empty", new DieStudy().bridgeCount(), 0);
        due.is("one couple of 24 specimens", Studies.ofOneCouple(24).bridgeCount(), 1);
        due.is("ten components", tenComponents().bridgeCount(), 10);
        due.is("a path through all dies", Studies.ringOfAllDies(19).bridgeCount(), 19);
        due.is("a ring through all dies", Studies.ringOfAllDies(20).bridgeCount(), 0);
        due.is("three of the least ring", Studies.of(0, 1, 10).bridgeCount(), 3);
        due.is("the least ring", Studies.of(0, 1, 10, 11).bridgeCount(), 0);
        due.is("the least ring with one couple more", Studies.of(0, 1, 10, 11, 12).bridgeCount(), 1);
        due.is("24 couples of 10 dies", fiveByFive().bridgeCount(), 0);
    }

    private void isBridge() {
        document.hold("Promise 17", "Tells whether a couple is a bridge.");
        due.is("the only couple", Studies.ofOneCouple(24).isBridge(0), 1);
        document.hold("Promise 17", "- `couple`: 0 or more");
        due.is("the first of 19", Studies.ringOfAllDies(19).isBridge(0), 1);
        due.is("the last of 19", Studies.ringOfAllDies(19).isBridge(18), 1);
        due.is("none behind the last of 19", Studies.ringOfAllDies(19).isBridge(19), -3);
        document.hold("Promise 17", "Returns 1 if it is a bridge, 0 if not");
        DieStudy ring = Studies.ringOfAllDies(20);
        for (int couple = 0; couple < 20; couple++) {
            due.is("in a ring: " + couple, ring.isBridge(couple), 0);
        }
        DieStudy x = fiveByFive();
        due.is("the first of 24", x.isBridge(0), 0);
        due.is("the last of 24", x.isBridge(23), 0);
        DieStudy y = Studies.of(0, 1, 10, 11, 99);
        due.is("in the ring", y.isBridge(3), 0);
        due.is("a couple for itself", y.isBridge(4), 1);
        y.removeSpecimen(0);
        due.is("the ring is open", y.isBridge(2), 1);
        y.undo();
        due.is("the ring is closed", y.isBridge(2), 0);
    }

    private void isBridgeOutOfRange() {
        for (DieStudy x : new DieStudy[] {new DieStudy(), Studies.ofOneCouple(24), Studies.toAndFro()}) {
            int couples = x.coupleCount();
            document.hold("Promise 17", "INVALID_ARGUMENT if couple is negative");
            for (int couple : Outside.below(0)) {
                due.is("isBridge " + couple, x.isBridge(couple), -1);
            }
            document.hold("Promise 17", "NOT_FOUND if there is no such couple.");
            for (int couple : Outside.above(couples - 1)) {
                due.is("isBridge " + couple, x.isBridge(couple), -3);
            }
        }
    }
}
