/** Promises 8 to 10: dieCount, frequency and meanWearBits. */
public final class DiesTest {
    private static final Due due = new Due();
    private static final int[] OUTSIDE_DIES = {-1, 10, Integer.MIN_VALUE, Integer.MAX_VALUE};
    private static final int[] OUTSIDE_SIDES = {-1, 2, Integer.MIN_VALUE, Integer.MAX_VALUE};

    public static void main(String[] args) {
        knownDies();
        meanWear();
        everyMeanWear();
        wrongArguments();
        due.end();
    }

    private static void knownDies() {
        DieStudy x = new DieStudy();
        x.addSpecimen(0, 9, 0, 0);
        x.addSpecimen(0, 8, 0, 0);
        x.addSpecimen(9, 9, 0, 0);
        x.addSpecimen(0, 7, 0, 0);
        due.is("dieCount(0)", x.dieCount(0), 2);
        due.is("dieCount(1)", x.dieCount(1), 3);
        due.is("frequency(0, 0)", x.frequency(0, 0), 3);
        due.is("frequency(0, 9)", x.frequency(0, 9), 1);
        due.is("frequency(1, 9)", x.frequency(1, 9), 2);
        due.is("frequency of a die that is not known", x.frequency(1, 0), 0);
        x.removeSpecimen(2);
        due.is("dieCount(0) after removing", x.dieCount(0), 1);
        due.is("frequency(0, 9) after removing", x.frequency(0, 9), 0);
    }

    private static void meanWear() {
        DieStudy x = new DieStudy();
        x.addSpecimen(1, 2, 0, 5);
        due.is("mean 0", x.meanWearBits(0, 1), Float.floatToIntBits(0f));
        due.is("mean 5", x.meanWearBits(1, 2), Float.floatToIntBits(5f));
        x.addSpecimen(1, 3, 5, 1);
        x.addSpecimen(1, 2, 5, 4);
        due.is("mean 10/3", x.meanWearBits(0, 1), Float.floatToIntBits(10f / 3f));
        due.is("mean 9/2", x.meanWearBits(1, 2), Float.floatToIntBits(4.5f));
        due.is("mean 1", x.meanWearBits(1, 3), Float.floatToIntBits(1f));
        due.is("not known", x.meanWearBits(1, 1), -3);
    }

    private static void everyMeanWear() {
        for (int count = 1; count <= 24; count++) {
            for (int sum = 0; sum <= 5 * count; sum++) {
                DieStudy x = new DieStudy();
                int left = sum;
                for (int i = 0; i < count; i++) {
                    int wear = Math.min(5, left);
                    left -= wear;
                    x.addSpecimen(i % 10, 7, 5 - wear, wear);
                }
                due.is("mean " + sum + "/" + count, x.meanWearBits(1, 7), Float.floatToIntBits((float) sum / (float) count));
            }
        }
    }

    private static void wrongArguments() {
        DieStudy x = new DieStudy();
        x.addSpecimen(0, 0, 1, 1);
        for (int side : OUTSIDE_SIDES) {
            due.is("dieCount side " + side, x.dieCount(side), -1);
            due.is("frequency side " + side, x.frequency(side, 0), -1);
            due.is("meanWearBits side " + side, x.meanWearBits(side, 0), -1);
            due.is("meanWearBits side " + side + ", not known", x.meanWearBits(side, 5), -1);
        }
        for (int die : OUTSIDE_DIES) {
            due.is("frequency die " + die, x.frequency(0, die), -1);
            due.is("meanWearBits die " + die, x.meanWearBits(0, die), -1);
        }
    }
}
