/** Promises 18 to 21: compareCouples, isConsistent, coupleInOrder and generation. */
public final class ChronologyTest {
    private static final Due due = new Due();

    public static void main(String[] args) {
        everyPairOfSpans();
        compareByTheReverse();
        compareWithoutASharedDie();
        compareWithWrongArguments();
        orderTakesTheLowestFirst();
        orderAgainstTheNumbers();
        generationIsTheLongestWay();
        contradiction();
        contradictionAwayFromTheCouple();
        placesOutOfRange();
        askedAgainAfterAnEdit();
        twentyFourCouples();
        due.end();
    }

    /** Couples 0 and 1 with the obverse die in common, each with two specimens. */
    private static void everyPairOfSpans() {
        for (int i = 0; i < 6 * 6 * 6 * 6; i++) {
            int a = i % 6;
            int b = i / 6 % 6;
            int c = i / 36 % 6;
            int d = i / 216;
            DieStudy x = new DieStudy();
            x.addSpecimen(4, 0, a, 5);
            x.addSpecimen(4, 1, c, 0);
            x.addSpecimen(4, 0, b, 5);
            x.addSpecimen(4, 1, d, 0);
            boolean firstEarlier = Math.max(a, b) <= Math.min(c, d) && Math.min(a, b) < Math.max(c, d);
            boolean secondEarlier = Math.max(c, d) <= Math.min(a, b) && Math.min(c, d) < Math.max(a, b);
            String spans = "spans " + a + b + " and " + c + d;
            due.is(spans, x.compareCouples(0, 1), firstEarlier ? 1 : secondEarlier ? 2 : 0);
            due.is(spans + " turned", x.compareCouples(1, 0), firstEarlier ? 2 : secondEarlier ? 1 : 0);
            due.is(spans + " order", x.coupleInOrder(0), secondEarlier ? 1 : 0);
            due.is(spans + " generation", x.generation(1), firstEarlier ? 1 : 0);
        }
    }

    private static void compareByTheReverse() {
        DieStudy x = new DieStudy();
        x.addSpecimen(0, 7, 0, 3);
        x.addSpecimen(1, 7, 5, 2);
        due.is("by reverse: compareCouples(0, 1)", x.compareCouples(0, 1), 2);
        x.setWear(1, 1, 3);
        due.is("by reverse, equal: compareCouples(0, 1)", x.compareCouples(0, 1), 0);
        x.setWear(1, 1, 4);
        due.is("by reverse: compareCouples(0, 1)", x.compareCouples(0, 1), 1);
    }

    private static void compareWithoutASharedDie() {
        DieStudy x = new DieStudy();
        x.addSpecimen(1, 2, 0, 0);
        x.addSpecimen(2, 1, 5, 5);
        due.is("no shared die", x.compareCouples(0, 1), 0);
        due.is("no shared die, turned", x.compareCouples(1, 0), 0);
        due.is("no shared die: generation(1)", x.generation(1), 0);
    }

    private static void compareWithWrongArguments() {
        DieStudy x = new DieStudy();
        x.addSpecimen(0, 0, 0, 0);
        x.addSpecimen(0, 1, 1, 0);
        for (int couple : new int[] {-1, 2, 24, Integer.MIN_VALUE, Integer.MAX_VALUE}) {
            due.is("compareCouples first " + couple, x.compareCouples(couple, 0), -1);
            due.is("compareCouples second " + couple, x.compareCouples(1, couple), -1);
            due.is("compareCouples both " + couple, x.compareCouples(couple, couple), -1);
        }
        due.is("compareCouples(1, 1)", x.compareCouples(1, 1), -1);
        due.is("empty: compareCouples(0, 1)", new DieStudy().compareCouples(0, 1), -1);
    }

    private static void orderTakesTheLowestFirst() {
        DieStudy x = new DieStudy();
        x.addSpecimen(0, 0, 3, 0);
        x.addSpecimen(0, 1, 1, 0);
        x.addSpecimen(5, 5, 0, 0);
        x.addSpecimen(6, 6, 0, 0);
        int[] order = {1, 0, 2, 3};
        for (int place = 0; place < order.length; place++) {
            due.is("lowest first: coupleInOrder(" + place + ")", x.coupleInOrder(place), order[place]);
        }
        due.is("lowest first: generation(0)", x.generation(0), 1);
        due.is("lowest first: generation(1)", x.generation(1), 0);
    }

    private static void orderAgainstTheNumbers() {
        DieStudy x = new DieStudy();
        for (int i = 0; i < 6; i++) {
            x.addSpecimen(3, i, 5 - i, 0);
        }
        for (int i = 0; i < 6; i++) {
            due.is("against: coupleInOrder(" + i + ")", x.coupleInOrder(i), 5 - i);
            due.is("against: generation(" + i + ")", x.generation(i), 5 - i);
        }
        due.is("against: isConsistent()", x.isConsistent(), 1);
    }

    /** Couple 0 is earlier than 3 directly, but also by way of 1 and 2. */
    private static void generationIsTheLongestWay() {
        DieStudy x = new DieStudy();
        x.addSpecimen(0, 0, 0, 0);
        x.addSpecimen(0, 1, 1, 0);
        x.addSpecimen(0, 2, 1, 0);
        x.addSpecimen(0, 3, 2, 0);
        x.addSpecimen(1, 2, 0, 1);
        int[] generations = {0, 1, 1, 2, 2};
        for (int couple = 0; couple < generations.length; couple++) {
            due.is("longest: generation(" + couple + ")", x.generation(couple), generations[couple]);
        }
    }

    private static DieStudy fourInARing() {
        DieStudy x = new DieStudy();
        x.addSpecimen(0, 0, 0, 2);
        x.addSpecimen(0, 1, 1, 0);
        x.addSpecimen(1, 1, 0, 1);
        x.addSpecimen(1, 0, 1, 0);
        return x;
    }

    private static void contradiction() {
        DieStudy x = fourInARing();
        due.is("ring: isConsistent()", x.isConsistent(), 0);
        for (int i = 0; i < 4; i++) {
            due.is("ring: coupleInOrder(" + i + ")", x.coupleInOrder(i), -4);
            due.is("ring: generation(" + i + ")", x.generation(i), -4);
        }
        due.is("ring: coupleInOrder(4)", x.coupleInOrder(4), -3);
        due.is("ring: generation(4)", x.generation(4), -3);
        due.is("ring: coupleInOrder(-1)", x.coupleInOrder(-1), -1);
        due.is("ring: generation(-1)", x.generation(-1), -1);
        x.setWear(3, 1, 2);
        due.is("ring opened: isConsistent()", x.isConsistent(), 1);
        due.is("undo()", x.undo(), 4);
        due.is("ring closed again: isConsistent()", x.isConsistent(), 0);
    }

    private static void contradictionAwayFromTheCouple() {
        DieStudy x = fourInARing();
        x.addSpecimen(9, 9, 0, 0);
        due.is("ring elsewhere: isConsistent()", x.isConsistent(), 0);
        due.is("ring elsewhere: generation(4)", x.generation(4), -4);
        due.is("ring elsewhere: coupleInOrder(0)", x.coupleInOrder(0), -4);
    }

    private static void placesOutOfRange() {
        DieStudy x = new DieStudy();
        due.is("empty: coupleInOrder(0)", x.coupleInOrder(0), -3);
        due.is("empty: generation(0)", x.generation(0), -3);
        x.addSpecimen(8, 8, 0, 0);
        due.is("one: coupleInOrder(0)", x.coupleInOrder(0), 0);
        due.is("one: generation(0)", x.generation(0), 0);
        for (int far : new int[] {1, 24, Integer.MAX_VALUE}) {
            due.is("coupleInOrder(" + far + ")", x.coupleInOrder(far), -3);
            due.is("generation(" + far + ")", x.generation(far), -3);
        }
        for (int negative : new int[] {-1, Integer.MIN_VALUE}) {
            due.is("coupleInOrder(" + negative + ")", x.coupleInOrder(negative), -1);
            due.is("generation(" + negative + ")", x.generation(negative), -1);
        }
    }

    private static void askedAgainAfterAnEdit() {
        DieStudy x = new DieStudy();
        x.addSpecimen(0, 0, 0, 0);
        x.addSpecimen(0, 1, 1, 0);
        x.addSpecimen(0, 2, 2, 0);
        due.is("before: generation(2)", x.generation(2), 2);
        x.setWear(2, 0, 0);
        due.is("after: generation(2)", x.generation(2), 0);
        due.is("after: generation(1)", x.generation(1), 1);
        x.removeSpecimen(0);
        due.is("fewer: coupleInOrder(0)", x.coupleInOrder(0), 1);
        due.is("fewer: coupleInOrder(1)", x.coupleInOrder(1), 0);
        due.is("fewer: coupleInOrder(2)", x.coupleInOrder(2), -3);
    }

    /** Couples of four obverse dies with six reverse dies each, all of which wear in the order of the numbers. */
    private static void twentyFourCouples() {
        DieStudy x = new DieStudy();
        for (int i = 23; i >= 0; i--) {
            x.addSpecimen(i / 6, i % 6, i % 6, i / 6);
        }
        due.is("24: isConsistent()", x.isConsistent(), 1);
        for (int i = 0; i < 24; i++) {
            due.is("24: coupleInOrder(" + i + ")", x.coupleInOrder(i), i);
            due.is("24: generation(" + i + ")", x.generation(i), i / 6 + i % 6);
        }
        due.is("24: coupleInOrder(24)", x.coupleInOrder(24), -3);
        due.is("24: generation(24)", x.generation(24), -3);
        due.is("24: compareCouples(0, 23)", x.compareCouples(0, 23), 0);
        due.is("24: compareCouples(23, 22)", x.compareCouples(23, 22), 2);
        due.is("24: compareCouples(23, 24)", x.compareCouples(23, 24), -1);
        closeARing(x);
        due.is("24 with a ring: isConsistent()", x.isConsistent(), 0);
        due.is("24 with a ring: coupleInOrder(0)", x.coupleInOrder(0), -4);
        due.is("24 with a ring: generation(23)", x.generation(23), -4);
        due.is("24 with a ring: generation(24)", x.generation(24), -3);
    }

    /** Makes dies 1/1 earlier than 1/0 and these earlier than 0/0, which come before 0/1 and those before 1/1. */
    private static void closeARing(DieStudy x) {
        x.setWear(23 - 7, 0, 0);
        x.setWear(23 - 6, 0, 1);
        x.setWear(23, 1, 5);
    }
}
