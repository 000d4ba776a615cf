/** Promises 11 to 17: the couples and the link graph. */
public final class LinksTest {
    private static final Due due = new Due();

    public static void main(String[] args) {
        listOfCouples();
        coupleNumbersOutOfRange();
        chainAndRing();
        twoComponents();
        twoRingsOverABridge();
        componentSizeWithErrors();
        twentyFourCouples();
        fewerCouplesThanBefore();
        due.end();
    }

    private static DieStudy study(int... pairs) {
        DieStudy x = new DieStudy();
        for (int pair : pairs) {
            x.addSpecimen(pair / 10, pair % 10, 0, 0);
        }
        return x;
    }

    private static void listOfCouples() {
        DieStudy x = study(99, 10, 1, 10, 5, 90, 1);
        int[] want = {1, 5, 10, 90, 99};
        due.is("coupleCount()", x.coupleCount(), want.length);
        for (int i = 0; i < want.length; i++) {
            due.is("coupleAt(" + i + ")", x.coupleAt(i), want[i]);
        }
        x.removeSpecimen(2);
        due.is("couple with a specimen left", x.coupleCount(), 5);
        x.removeSpecimen(5);
        due.is("couple without specimens", x.coupleCount(), 4);
        due.is("coupleAt(0) now", x.coupleAt(0), 5);
    }

    private static void coupleNumbersOutOfRange() {
        DieStudy x = study(0, 11);
        due.is("coupleAt(2)", x.coupleAt(2), -3);
        due.is("coupleAt(24)", x.coupleAt(24), -3);
        due.is("coupleAt(greatest)", x.coupleAt(Integer.MAX_VALUE), -3);
        due.is("coupleAt(-1)", x.coupleAt(-1), -1);
        due.is("coupleAt(least)", x.coupleAt(Integer.MIN_VALUE), -1);
        due.is("isBridge(2)", x.isBridge(2), -3);
        due.is("isBridge(greatest)", x.isBridge(Integer.MAX_VALUE), -3);
        due.is("isBridge(-1)", x.isBridge(-1), -1);
        due.is("isBridge(least)", x.isBridge(Integer.MIN_VALUE), -1);
        due.is("empty: isBridge(0)", new DieStudy().isBridge(0), -3);
    }

    private static void chainAndRing() {
        DieStudy x = study(0, 1, 11, 12, 22);
        due.is("chain: componentCount()", x.componentCount(), 1);
        due.is("chain: cycleRank()", x.cycleRank(), 0);
        due.is("chain: bridgeCount()", x.bridgeCount(), 5);
        x.addSpecimen(2, 0, 0, 0);
        due.is("ring: componentCount()", x.componentCount(), 1);
        due.is("ring: cycleRank()", x.cycleRank(), 1);
        due.is("ring: bridgeCount()", x.bridgeCount(), 0);
        x.addSpecimen(2, 1, 0, 0);
        due.is("ring and chord: cycleRank()", x.cycleRank(), 2);
        due.is("ring and chord: bridgeCount()", x.bridgeCount(), 0);
        x.addSpecimen(2, 1, 5, 5);
        due.is("second specimen of a couple: cycleRank()", x.cycleRank(), 2);
    }

    private static void twoComponents() {
        DieStudy x = study(0, 1, 55);
        due.is("two: componentCount()", x.componentCount(), 2);
        due.is("two: componentSize(0, 0)", x.componentSize(0, 0), 3);
        due.is("two: componentSize(1, 1)", x.componentSize(1, 1), 3);
        due.is("two: componentSize(0, 5)", x.componentSize(0, 5), 2);
        due.is("two: cycleRank()", x.cycleRank(), 0);
        due.is("two: bridgeCount()", x.bridgeCount(), 3);
        x.mergeDies(0, 5, 0);
        due.is("merged: componentCount()", x.componentCount(), 1);
        due.is("merged: componentSize(1, 5)", x.componentSize(1, 5), 4);
        due.is("merged: componentSize(0, 5)", x.componentSize(0, 5), -3);
    }

    /** The same number on both sides names two dies, which are not linked by it. */
    private static void twoRingsOverABridge() {
        DieStudy x = study(0, 1, 10, 11, 12, 22, 23, 32, 33);
        due.is("rings: componentCount()", x.componentCount(), 1);
        due.is("rings: cycleRank()", x.cycleRank(), 2);
        due.is("rings: bridgeCount()", x.bridgeCount(), 1);
        for (int i = 0; i < 9; i++) {
            due.is("rings: isBridge(" + i + ")", x.isBridge(i), i == 4 ? 1 : 0);
        }
        due.is("rings: componentSize(1, 3)", x.componentSize(1, 3), 8);
        due.is("equal numbers are no link", study(12, 21).componentCount(), 2);
    }

    private static void componentSizeWithErrors() {
        DieStudy x = study(0);
        for (int side : new int[] {-1, 2, Integer.MIN_VALUE, Integer.MAX_VALUE}) {
            due.is("componentSize side " + side, x.componentSize(side, 0), -1);
        }
        for (int die : new int[] {-1, 10, Integer.MIN_VALUE, Integer.MAX_VALUE}) {
            due.is("componentSize die " + die, x.componentSize(0, die), -1);
            due.is("componentSize die " + die, x.componentSize(1, die), -1);
        }
        due.is("componentSize not known", x.componentSize(0, 9), -3);
        due.is("componentSize(1, 0)", x.componentSize(1, 0), 2);
    }

    private static void fewerCouplesThanBefore() {
        DieStudy x = study(0, 1, 2, 3);
        due.is("before: bridgeCount()", x.bridgeCount(), 4);
        x.removeSpecimen(3);
        x.removeSpecimen(2);
        due.is("fewer: bridgeCount()", x.bridgeCount(), 2);
        due.is("fewer: componentSize(0, 0)", x.componentSize(0, 0), 3);
        due.is("fewer: componentSize(1, 3)", x.componentSize(1, 3), -3);
        due.is("fewer: coupleAt(2)", x.coupleAt(2), -3);
    }

    private static void twentyFourCouples() {
        DieStudy x = new DieStudy();
        for (int i = 0; i < 24; i++) {
            x.addSpecimen(9 - i / 5, 9 - i % 5, 0, 0);
        }
        due.is("24: coupleCount()", x.coupleCount(), 24);
        due.is("24: coupleAt(0)", x.coupleAt(0), 56);
        due.is("24: coupleAt(23)", x.coupleAt(23), 99);
        due.is("24: coupleAt(24)", x.coupleAt(24), -3);
        due.is("24: cycleRank()", x.cycleRank(), 15);
        due.is("24: componentSize(0, 5)", x.componentSize(0, 5), 10);
        due.is("24: componentCount()", x.componentCount(), 1);
        due.is("24: bridgeCount()", x.bridgeCount(), 0);
        due.is("24: isBridge(23)", x.isBridge(23), 0);
    }
}
