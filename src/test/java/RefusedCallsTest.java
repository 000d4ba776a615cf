import java.util.ArrayList;
import java.util.List;
import java.util.function.Supplier;
import java.util.function.ToIntFunction;

/**
 * 'A call that returns an error changes nothing and is no edit': every error that each method can answer, in studies at the
 * document's bounds, and what all the other methods answer after it, now and as far back as can be undone.
 */
public final class RefusedCallsTest {
    private static final Due due = new Due();

    private record Call(String name, int error, ToIntFunction<DieStudy> ask) {
    }

    public static void main(String[] args) {
        refusedIn("empty", DieStudy::new);
        refusedIn("one specimen", () -> Studies.of(12));
        refusedIn("emptied", RefusedCallsTest::emptied);
        refusedIn("five undone", RefusedCallsTest::fiveUndone);
        refusedIn("partly undone", RefusedCallsTest::partlyUndone);
        refusedIn("contradiction", Studies::ringOfFour);
        refusedIn("full, 24 couples", Studies::toAndFro);
        refusedIn("full, one couple", () -> Studies.ofOneCouple(24));
        refusedIn("full, contradiction", RefusedCallsTest::fullContradiction);
        due.end();
    }

    private static DieStudy emptied() {
        DieStudy x = Studies.of(12, 34);
        x.removeSpecimen(0);
        x.removeSpecimen(0);
        return x;
    }

    private static DieStudy fiveUndone() {
        DieStudy x = Studies.of(12, 13, 23, 24, 34, 35, 45, 46);
        for (int i = 0; i < 5; i++) {
            x.undo();
        }
        return x;
    }

    private static DieStudy partlyUndone() {
        DieStudy x = Studies.ringOfFour();
        x.setWear(3, 1, 2);
        x.mergeDies(1, 1, 8);
        x.removeSpecimen(2);
        x.undo();
        x.setWear(0, 0, 5);
        x.undo();
        return x;
    }

    private static DieStudy fullContradiction() {
        DieStudy x = Studies.ringOfAllDies(20);
        for (int i = 0; i < 4; i++) {
            x.addSpecimen(i, i, 0, 1);
        }
        return x;
    }

    private static void refusedIn(String state, Supplier<DieStudy> alike) {
        List<String> before = Answers.of(alike);
        List<Call> calls = refusedCalls(alike.get());
        for (Call call : calls) {
            due.is(state + ": " + call.name, call.ask.applyAsInt(alike.get()), call.error);
            same(state + ": " + call.name, before, Answers.of(() -> after(alike.get(), List.of(call))));
        }
        same(state + ": all of these", before, Answers.of(() -> after(alike.get(), calls)));
    }

    private static DieStudy after(DieStudy x, List<Call> calls) {
        for (Call call : calls) {
            call.ask.applyAsInt(x);
        }
        return x;
    }

    private static void same(String where, List<String> before, List<String> after) {
        due.is(where + ", number of answers after it", after.size(), before.size());
        int differs = 0;
        while (differs < before.size() && before.get(differs).equals(after.get(differs))) {
            differs++;
        }
        due.holds(where + ", nothing is changed, but " + (differs < before.size() ? after.get(differs) : ""),
                differs == before.size());
    }

    private static List<Call> refusedCalls(DieStudy x) {
        List<Call> calls = new ArrayList<>();
        refusedEdits(calls, x.specimenCount());
        refusedByRange(calls, x.specimenCount(), x.coupleCount());
        refusedPlaces(calls, x.coupleCount(), x.isConsistent() == 1);
        refusedForUnknownDies(calls, x);
        refusedEstimates(calls, x);
        if (canUndoNothing(x)) {
            calls.add(new Call("undo()", -3, DieStudy::undo));
        }
        return calls;
    }

    private static boolean canUndoNothing(DieStudy x) {
        return x.undo() < 0;
    }

    private static void refusedEdits(List<Call> calls, int specimens) {
        for (int outside : new int[] {-1, 10, Integer.MIN_VALUE, Integer.MAX_VALUE}) {
            calls.add(new Call("addSpecimen obverse " + outside, -1, x -> x.addSpecimen(outside, 0, 0, 0)));
            calls.add(new Call("addSpecimen reverse " + outside, -1, x -> x.addSpecimen(0, outside, 0, 0)));
            calls.add(new Call("mergeDies from " + outside, -1, x -> x.mergeDies(0, outside, 1)));
            calls.add(new Call("mergeDies to " + outside, -1, x -> x.mergeDies(1, 2, outside)));
        }
        for (int outside : new int[] {-1, 6, Integer.MIN_VALUE, Integer.MAX_VALUE}) {
            calls.add(new Call("addSpecimen obverse wear " + outside, -1, x -> x.addSpecimen(0, 0, outside, 0)));
            calls.add(new Call("addSpecimen reverse wear " + outside, -1, x -> x.addSpecimen(0, 0, 0, outside)));
            calls.add(new Call("setWear wear " + outside, -1, x -> x.setWear(0, 0, outside)));
        }
        for (int outside : new int[] {-1, specimens, Integer.MIN_VALUE, Integer.MAX_VALUE}) {
            calls.add(new Call("removeSpecimen " + outside, -1, x -> x.removeSpecimen(outside)));
            calls.add(new Call("setWear specimen " + outside, -1, x -> x.setWear(outside, 1, 3)));
        }
        for (int outside : new int[] {-1, 2, Integer.MIN_VALUE, Integer.MAX_VALUE}) {
            calls.add(new Call("setWear side " + outside, -1, x -> x.setWear(0, outside, 3)));
            calls.add(new Call("mergeDies side " + outside, -1, x -> x.mergeDies(outside, 1, 3)));
        }
        if (specimens == 24) {
            calls.add(new Call("addSpecimen(9, 9, 5, 5)", -2, x -> x.addSpecimen(9, 9, 5, 5)));
        }
    }

    private static void refusedByRange(List<Call> calls, int specimens, int couples) {
        for (int outside : new int[] {-1, 2}) {
            calls.add(new Call("dieOf side " + outside, -1, x -> x.dieOf(0, outside)));
            calls.add(new Call("dieCount side " + outside, -1, x -> x.dieCount(outside)));
            calls.add(new Call("frequency side " + outside, -1, x -> x.frequency(outside, 0)));
            calls.add(new Call("meanWearBits side " + outside, -1, x -> x.meanWearBits(outside, 0)));
            calls.add(new Call("componentSize side " + outside, -1, x -> x.componentSize(outside, 0)));
            calls.add(new Call("singletons side " + outside, -1, x -> x.singletons(outside)));
            calls.add(new Call("coverageEstimate side " + outside, -1, x -> x.coverageEstimate(outside)));
            calls.add(new Call("frequencyEstimate side " + outside, -1, x -> x.frequencyEstimate(outside)));
        }
        for (int outside : new int[] {-1, 10}) {
            calls.add(new Call("frequency die " + outside, -1, x -> x.frequency(0, outside)));
            calls.add(new Call("meanWearBits die " + outside, -1, x -> x.meanWearBits(0, outside)));
            calls.add(new Call("componentSize die " + outside, -1, x -> x.componentSize(1, outside)));
        }
        for (int outside : new int[] {-1, specimens}) {
            calls.add(new Call("dieOf specimen " + outside, -1, x -> x.dieOf(outside, 0)));
        }
        for (int outside : new int[] {-1, couples}) {
            calls.add(new Call("compareCouples first " + outside, -1, x -> x.compareCouples(outside, 0)));
            calls.add(new Call("compareCouples second " + outside, -1, x -> x.compareCouples(0, outside)));
        }
        calls.add(new Call("compareCouples(0, 0)", -1, x -> x.compareCouples(0, 0)));
    }

    private static void refusedPlaces(List<Call> calls, int couples, boolean consistent) {
        for (int place : new int[] {-1, couples, Integer.MIN_VALUE, Integer.MAX_VALUE}) {
            int error = place < 0 ? -1 : -3;
            calls.add(new Call("coupleAt " + place, error, x -> x.coupleAt(place)));
            calls.add(new Call("isBridge " + place, error, x -> x.isBridge(place)));
            calls.add(new Call("coupleInOrder " + place, error, x -> x.coupleInOrder(place)));
            calls.add(new Call("generation " + place, error, x -> x.generation(place)));
        }
        if (!consistent) {
            calls.add(new Call("coupleInOrder(0)", -4, x -> x.coupleInOrder(0)));
            calls.add(new Call("generation(0)", -4, x -> x.generation(0)));
            calls.add(new Call("coupleInOrder of the last", -4, x -> x.coupleInOrder(couples - 1)));
            calls.add(new Call("generation of the last", -4, x -> x.generation(couples - 1)));
        }
    }

    private static void refusedForUnknownDies(List<Call> calls, DieStudy study) {
        for (int i = 0; i < 20; i++) {
            int side = i / 10;
            int die = i % 10;
            if (study.frequency(side, die) == 0) {
                String named = side + ", " + die;
                calls.add(new Call("mergeDies " + named + ", 1", -3, x -> x.mergeDies(side, die, 1)));
                calls.add(new Call("mergeDies " + named + ", itself", -3, x -> x.mergeDies(side, die, die)));
                calls.add(new Call("meanWearBits " + named, -3, x -> x.meanWearBits(side, die)));
                calls.add(new Call("componentSize " + named, -3, x -> x.componentSize(side, die)));
            }
        }
    }

    private static void refusedEstimates(List<Call> calls, DieStudy study) {
        int n = study.specimenCount();
        for (int i = 0; i < 2; i++) {
            int side = i;
            if (study.singletons(side) == n) {
                calls.add(new Call("coverageEstimate " + side, -3, x -> x.coverageEstimate(side)));
            }
            if (n < 2 || study.dieCount(side) == n) {
                calls.add(new Call("frequencyEstimate " + side, -3, x -> x.frequencyEstimate(side)));
            }
        }
    }
}
