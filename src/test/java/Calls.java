import java.util.EnumSet;
import java.util.Set;
import java.util.function.Supplier;
import java.util.function.ToIntFunction;

/** Calls of which it counts what they leave as it was, not their answer alone. */
final class Calls {
    private Calls() {
    }

    /** The call answers what is due, and tells apart by nothing the object it was made on from one it was not. */
    static void changesNothing(String call, Supplier<ColourProof> make, ToIntFunction<ColourProof> made, int answer) {
        changes(call, make, made, answer, EnumSet.noneOf(State.class));
    }

    /** The call answers what is due and leaves all as it was but for what is named, of which nothing is asked here. */
    static void changes(String call, Supplier<ColourProof> make, ToIntFunction<ColourProof> made, int answer,
            Set<State> changed) {
        Expect.due(call, made.applyAsInt(make.get()), answer);
        for (State state : State.values()) {
            if (changed.contains(state)) {
                continue;
            }
            ColourProof x = make.get();
            made.applyAsInt(x);
            String before = state.of(make.get());
            String behind = state.of(x);
            Expect.due(call + " leaves '" + before + "', found '" + behind + "'", behind.equals(before), true);
        }
    }
}
