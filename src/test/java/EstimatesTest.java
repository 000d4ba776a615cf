import java.math.BigDecimal;
import java.math.RoundingMode;

/** Promises 22 to 24: singletons and the two estimates. */
public final class EstimatesTest {
    private static final Due due = new Due();

    public static void main(String[] args) {
        everyNumberOfSpecimensAndDies();
        sidesByThemselves();
        valuesWorkedOutByHand();
        wrongSides();
        due.end();
    }

    /** d dies on the obverse, s of them with one specimen and one with the rest of n specimens. */
    private static void everyNumberOfSpecimensAndDies() {
        for (int n = 1; n <= 24; n++) {
            for (int d = 1; d <= Math.min(10, n); d++) {
                DieStudy x = new DieStudy();
                for (int i = 0; i < n; i++) {
                    x.addSpecimen(Math.min(i, d - 1), 0, 0, 0);
                }
                int s = n == d ? d : d - 1;
                String where = "n " + n + ", d " + d + ": ";
                due.is(where + "singletons(0)", x.singletons(0), s);
                due.is(where + "coverageEstimate(0)", x.coverageEstimate(0), s == n ? -3 : thousandths(n * d, n - s));
                due.is(where + "frequencyEstimate(0)", x.frequencyEstimate(0), frequencyEstimate(n, d));
            }
        }
    }

    private static int frequencyEstimate(int n, int d) {
        if (n < 2 || n == d) {
            return -3;
        }
        if (n < 2 * d) {
            return thousandths(n * d * 1000, 1124 * n - 1016 * d);
        }
        if (n < 3 * d) {
            return thousandths(n * d * 1000, 1069 * n - 843 * d);
        }
        return thousandths(n * d * 1000, 1016 * n - 197 * d);
    }

    private static int thousandths(int dividend, int divisor) {
        return new BigDecimal(dividend).multiply(new BigDecimal(1000))
                .divide(new BigDecimal(divisor), 0, RoundingMode.FLOOR).intValueExact();
    }

    private static void sidesByThemselves() {
        DieStudy x = new DieStudy();
        x.addSpecimen(0, 0, 0, 0);
        x.addSpecimen(0, 1, 0, 0);
        x.addSpecimen(0, 2, 0, 0);
        due.is("sides: singletons(0)", x.singletons(0), 0);
        due.is("sides: singletons(1)", x.singletons(1), 3);
        due.is("sides: coverageEstimate(0)", x.coverageEstimate(0), 1000);
        due.is("sides: coverageEstimate(1)", x.coverageEstimate(1), -3);
        due.is("sides: frequencyEstimate(0)", x.frequencyEstimate(0), 1052);
        due.is("sides: frequencyEstimate(1)", x.frequencyEstimate(1), -3);
        x.addSpecimen(1, 2, 0, 0);
        due.is("sides: singletons(0)", x.singletons(0), 1);
        due.is("sides: singletons(1)", x.singletons(1), 2);
        due.is("sides: coverageEstimate(0)", x.coverageEstimate(0), 2666);
        due.is("sides: coverageEstimate(1)", x.coverageEstimate(1), 6000);
    }

    private static void valuesWorkedOutByHand() {
        DieStudy x = new DieStudy();
        x.addSpecimen(0, 0, 0, 0);
        due.is("one: frequencyEstimate(0)", x.frequencyEstimate(0), -3);
        due.is("one: coverageEstimate(0)", x.coverageEstimate(0), -3);
        due.is("one: singletons(0)", x.singletons(0), 1);
        x.addSpecimen(0, 0, 0, 0);
        // 2 * 1 * 1000 / (2138 - 843) = 1.5444
        due.is("n is 2 d: frequencyEstimate(0)", x.frequencyEstimate(0), 1544);
        x.addSpecimen(0, 0, 0, 0);
        // 3 * 1 * 1000 / (3048 - 197) = 1.0522
        due.is("n is 3 d: frequencyEstimate(0)", x.frequencyEstimate(0), 1052);
        x.addSpecimen(1, 1, 0, 0);
        x.addSpecimen(2, 2, 0, 0);
        // 5 * 3 * 1000 / (5620 - 3048) = 5.8320
        due.is("n under 2 d: frequencyEstimate(0)", x.frequencyEstimate(0), 5832);
    }

    private static void wrongSides() {
        DieStudy x = new DieStudy();
        for (int side : new int[] {-1, 2, Integer.MIN_VALUE, Integer.MAX_VALUE}) {
            due.is("singletons(" + side + ")", x.singletons(side), -1);
            due.is("coverageEstimate(" + side + ")", x.coverageEstimate(side), -1);
            due.is("frequencyEstimate(" + side + ")", x.frequencyEstimate(side), -1);
        }
    }
}
