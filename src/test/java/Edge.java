import java.util.List;
import java.util.function.Function;

/** A boundary that the document names: each call at it is asked of a new object with the same past. */
final class Edge {
    // Each look has objects of its own, since one changes what the next would see.
    private static final List<Function<BarrierMarks, String>> LOOKS = List.of(Shown::tasks, Shown::channels,
        Shown::marks, Later::goesOn, Later::goesBack, Later::givesUp, Later::fails, Later::sendsAgain);

    private final String sentence;
    private final Past past;

    private Edge(String sentence, Past past) {
        this.sentence = sentence;
        this.past = past;
    }

    static Edge at(String sentence, Past past) {
        return new Edge(sentence, past);
    }

    Edge answers(Object want, Function<BarrierMarks, Object> call) {
        BarrierMarks b = past.get();
        Check.due(sentence, want, () -> call.apply(b));
        return this;
    }

    /** A digit for each turn of the task, the one behind the other. */
    Edge turns(int task, String digits) {
        BarrierMarks b = past.get();
        StringBuilder got = new StringBuilder();
        for (int i = 0; i < digits.length(); i++) {
            got.append(b.turn(task));
        }
        Check.due(sentence + ", turns of " + task, digits, () -> got);
        return this;
    }

    /** The call throws, and neither what is told then nor what comes later differs by it. */
    Edge refuses(String exception, Function<BarrierMarks, Object> call) {
        return leaves(exception, call);
    }

    /** The call changes nothing, whatever it answers. */
    Edge asks(Function<BarrierMarks, Object> call) {
        BarrierMarks b = past.get();
        return leaves(Check.told(() -> call.apply(b)), call);
    }

    /** The call answers so, and changes nothing. */
    Edge leaves(Object want, Function<BarrierMarks, Object> call) {
        for (Function<BarrierMarks, String> look : LOOKS) {
            BarrierMarks called = past.get();
            BarrierMarks other = past.get();
            Check.due(sentence, want, () -> call.apply(called));
            Check.due(sentence + ", and nothing has changed", look.apply(other), () -> look.apply(called));
        }
        return this;
    }
}
