import java.util.ArrayList;
import java.util.List;
import java.util.function.Consumer;
import java.util.function.Supplier;

/** Calls that make an object what a test begins with; each time it is asked for, a new one. */
final class Past implements Supplier<BarrierMarks> {
    private final Supplier<BarrierMarks> first;
    private final List<Consumer<BarrierMarks>> calls;

    private Past(Supplier<BarrierMarks> first, List<Consumer<BarrierMarks>> calls) {
        this.first = first;
        this.calls = calls;
    }

    /** Each pair of ends is a channel. */
    static Past of(int tasks, int... ends) {
        return new Past(() -> Webs.of(tasks, ends), List.of());
    }

    static Past chain(int tasks) {
        return new Past(() -> Webs.chain(tasks), List.of());
    }

    static Past join() {
        return new Past(Webs::join, List.of());
    }

    /** One task with so many sources. */
    static Past fan(int sources) {
        return of(1).channels(sources, BarrierMarks.NONE, 0);
    }

    Past channels(int count, int from, int to) {
        return then(count, b -> b.channel(from, to));
    }

    Past row(int channel, long v) {
        return then(1, b -> b.send(channel, v));
    }

    /** The rows 1, 2, .. */
    Past rows(int channel, int count) {
        Past past = this;
        for (int v = 1; v <= count; v++) {
            past = past.row(channel, v);
        }
        return past;
    }

    Past finish(int channel) {
        return then(1, b -> b.finish(channel));
    }

    Past marks(int count) {
        return then(count, BarrierMarks::mark);
    }

    /** So many marks, each given up at once. */
    Past marksGivenUp(int count) {
        return then(count, b -> b.giveUp(b.mark()));
    }

    Past turns(int task, int count) {
        return then(count, b -> b.turn(task));
    }

    Past keeper(int count) {
        return turns(BarrierMarks.NONE, count);
    }

    /** Turns enough that in a small web all comes through that can. */
    Past plays() {
        return plays(1);
    }

    Past plays(int count) {
        return then(count, b -> b.play(1, 2000));
    }

    /** A mark that is complete. */
    Past complete() {
        return marks(1).plays();
    }

    Past giveUp(int mark) {
        return then(1, b -> b.giveUp(mark));
    }

    Past fails(int task, int mark) {
        return then(1, b -> b.fails(task, mark));
    }

    Past again(int mark, int task, int count) {
        return then(count, b -> b.again(mark, task));
    }

    Past restore(int mark) {
        return then(1, b -> b.restore(mark));
    }

    @Override
    public BarrierMarks get() {
        BarrierMarks b = first.get();
        for (Consumer<BarrierMarks> call : calls) {
            call.accept(b);
        }
        return b;
    }

    private Past then(int count, Consumer<BarrierMarks> call) {
        List<Consumer<BarrierMarks>> more = new ArrayList<>(calls);
        for (int i = 0; i < count; i++) {
            more.add(call);
        }
        return new Past(first, more);
    }
}
