import java.util.ArrayList;
import java.util.List;
import java.util.function.Supplier;

/**
 * All that a study answers. The questions go to studies that were made alike, a part of them to each, since no object
 * is asked more than 512 times and the wear of a specimen and the history are told by calls that change the study.
 */
final class Answers {
    private final List<String> answers = new ArrayList<>();

    private Answers() {
    }

    /** What a study answers now, after each number of undoings, and after each when an edit has gone before. */
    static List<String> of(Supplier<DieStudy> alike) {
        Answers all = new Answers();
        for (int undoings = 0; undoings <= 6; undoings++) {
            int times = undoings;
            all.afterUndoing(undoings + " undone: ", () -> undone(alike.get(), times));
        }
        for (int undoings = 0; undoings <= 6; undoings++) {
            int times = undoings;
            all.specimensOf("an edit, " + undoings + " undone: ", () -> undone(edited(alike.get()), times));
        }
        return all.answers;
    }

    private static DieStudy undone(DieStudy x, int times) {
        for (int i = 0; i < times; i++) {
            x.undo();
        }
        return x;
    }

    private static DieStudy edited(DieStudy x) {
        if (x.addSpecimen(2, 3, 4, 5) < 0) {
            x.removeSpecimen(0);
        }
        return x;
    }

    private void afterUndoing(String where, Supplier<DieStudy> alike) {
        specimensOf(where, alike);
        diesOf(where, alike.get());
        linksOf(where, alike.get());
        comparisonsOf(where, alike.get());
    }

    private void add(String where, String call, int answer) {
        answers.add(where + call + " = " + answer);
    }

    private void specimensOf(String where, Supplier<DieStudy> alike) {
        add(where, "undo()", alike.get().undo());
        DieStudy x = alike.get();
        add(where, "specimenCount()", x.specimenCount());
        for (int side = 0; side < 2; side++) {
            for (int i = 0; i <= 24; i++) {
                add(where, "dieOf(" + i + ", " + side + ")", x.dieOf(i, side));
                add(where, "setWear(" + i + ", " + side + ", 0)", x.setWear(i, side, 0));
            }
        }
    }

    private void diesOf(String where, DieStudy x) {
        for (int side = 0; side < 2; side++) {
            add(where, "dieCount(" + side + ")", x.dieCount(side));
            add(where, "singletons(" + side + ")", x.singletons(side));
            add(where, "coverageEstimate(" + side + ")", x.coverageEstimate(side));
            add(where, "frequencyEstimate(" + side + ")", x.frequencyEstimate(side));
            for (int die = 0; die < 10; die++) {
                add(where, "frequency(" + side + ", " + die + ")", x.frequency(side, die));
                add(where, "meanWearBits(" + side + ", " + die + ")", x.meanWearBits(side, die));
                add(where, "componentSize(" + side + ", " + die + ")", x.componentSize(side, die));
            }
        }
    }

    private void linksOf(String where, DieStudy x) {
        add(where, "coupleCount()", x.coupleCount());
        add(where, "componentCount()", x.componentCount());
        add(where, "cycleRank()", x.cycleRank());
        add(where, "bridgeCount()", x.bridgeCount());
        add(where, "isConsistent()", x.isConsistent());
        for (int i = 0; i <= 24; i++) {
            add(where, "coupleAt(" + i + ")", x.coupleAt(i));
            add(where, "isBridge(" + i + ")", x.isBridge(i));
            add(where, "coupleInOrder(" + i + ")", x.coupleInOrder(i));
            add(where, "generation(" + i + ")", x.generation(i));
        }
    }

    private void comparisonsOf(String where, DieStudy x) {
        for (int first = 0; first < 24; first++) {
            for (int second = first + 1; second < 24; second++) {
                add(where, "compareCouples(" + first + ", " + second + ")", x.compareCouples(first, second));
            }
        }
    }
}
