import java.util.function.BiFunction;

/** The boundaries of promises 12 to 24: the calls that ask, and change nothing. */
public final class AskEdgeTest {
    private static final int NONE = BarrierMarks.NONE;
    private static final String BOUNDS = Check.BOUNDS;
    private static final String STATE = Check.STATE;
    private static final String ARGUMENT = Check.ARGUMENT;
    // Task 0 has kept for mark 0, task 1 has not, and mark 1 is begun too.
    private static final Past HALF_KEPT = Past.chain(2).rows(0, 2).marks(2).turns(0, 4);

    public static void main(String[] args) {
        tasksAsked();
        taskWhat();
        taskRows();
        taskEnded();
        keptBounds();
        keptOrNot();
        keptStays();
        positionBounds();
        positions();
        marksAsked();
        conditions();
        acknowledged();
        exactOrNotComplete();
        exactSums();
        channelsAsked();
        held();
        waiting();
        thingsBounds();
        things();
        toldWhat();
        told();
        Check.end("AskEdgeTest");
    }

    /** Refused: just outside of 0 .. count - 1, and far outside. */
    private static void outside(String sentence, Past past, int count, BiFunction<BarrierMarks, Integer, Object> call) {
        int[] wrong = {-1, -2, count, count + 1, Integer.MAX_VALUE, Integer.MIN_VALUE};
        for (int number : wrong) {
            Edge.at(sentence + " " + number, past).refuses(BOUNDS, b -> call.apply(b, number));
        }
    }

    private static void tasksAsked() {
        Past[] pasts = {Past.of(1), Past.chain(3).rows(0, 1).plays(), Past.chain(8)};
        int[] counts = {1, 3, 8};
        for (int i = 0; i < pasts.length; i++) {
            int last = counts[i] - 1;
            Edge.at("12: the last task", pasts[i]).leaves(i == 1 ? 10 : 0, b -> b.state(last));
            outside("12: IndexOutOfBounds: task", pasts[i], counts[i], BarrierMarks::state);
            Edge.at("13: the last task", pasts[i])
                .leaves(i == 1 ? 1 : 0, b -> b.task(last, 0))
                .leaves(0, b -> b.task(last, 1));
            outside("13: IndexOutOfBounds: rows of task", pasts[i], counts[i], (b, t) -> b.task(t, 0));
            outside("13: IndexOutOfBounds: end of task", pasts[i], counts[i], (b, t) -> b.task(t, 1));
        }
    }

    private static void taskWhat() {
        int[] wrong = {-1, 2, 3, Integer.MAX_VALUE, Integer.MIN_VALUE};
        for (int what : wrong) {
            Edge.at("13: IllegalArgument: " + what, Past.chain(2)).refuses(ARGUMENT, b -> b.task(0, what));
            Edge.at("13: the first of several: no task, and " + what, Past.chain(2))
                .refuses(BOUNDS, b -> b.task(2, what))
                .refuses(BOUNDS, b -> b.task(NONE, what));
        }
    }

    private static void taskRows() {
        Edge.at("13: no row", Past.chain(1).rows(0, 1)).leaves(0, b -> b.task(0, 0)).leaves(0, b -> b.state(0));
        Edge.at("13: one row", Past.chain(1).row(0, 0).turns(0, 1))
            .leaves(1, b -> b.task(0, 0))
            .leaves(0, b -> b.state(0));
        Edge.at("13: barriers and ends are no rows", Past.chain(1).marks(1).finish(0).plays())
            .leaves(0, b -> b.task(0, 0));
        // Each row comes to task 1 by fifteen channels.
        Edge.at("13: more rows than a log has", Past.of(2, NONE, 0).channels(15, 0, 1).rows(0, 200).plays(8))
            .leaves(200, b -> b.task(0, 0))
            .leaves(3000, b -> b.task(1, 0));
    }

    private static void taskEnded() {
        Past last = Past.chain(2).rows(0, 1).finish(0);
        Edge.at("13: its end waits", last.turns(0, 1)).leaves(0, b -> b.task(0, 1));
        Edge.at("13: its end was taken", last.turns(0, 2)).leaves(0, b -> b.task(0, 1));
        Edge.at("13: it has ended", last.turns(0, 3)).leaves(1, b -> b.task(0, 1)).leaves(0, b -> b.task(1, 1));
    }

    private static void keptBounds() {
        Edge.at("14: IndexOutOfBounds: no marks", Past.chain(2))
            .refuses(BOUNDS, b -> b.kept(0, 0))
            .refuses(BOUNDS, b -> b.keptRows(0, 0));
        outside("14: IndexOutOfBounds: mark", HALF_KEPT, 2, (b, m) -> b.kept(m, 0));
        outside("14: IndexOutOfBounds: task", HALF_KEPT, 2, (b, t) -> b.kept(0, t));
        outside("14: the first of several: no task, and not kept", HALF_KEPT, 2, (b, t) -> b.kept(1, t));
        outside("15: IndexOutOfBounds: mark", HALF_KEPT, 2, (b, m) -> b.keptRows(m, 0));
        outside("15: IndexOutOfBounds: task", HALF_KEPT, 2, (b, t) -> b.keptRows(0, t));
        outside("15: the first of several: no task, and not kept", HALF_KEPT, 2, (b, t) -> b.keptRows(1, t));
        Past forty = Past.of(1).marksGivenUp(40);
        Edge.at("14: the last mark", forty).leaves(0, b -> b.kept(39, 0)).leaves(0, b -> b.keptRows(39, 0));
        outside("14: IndexOutOfBounds: none behind forty", forty, 40, (b, m) -> b.kept(m, 0));
        outside("15: IndexOutOfBounds: none behind forty", forty, 40, (b, m) -> b.keptRows(m, 0));
    }

    private static void keptOrNot() {
        Edge.at("14: it has kept", HALF_KEPT).leaves(3, b -> b.kept(0, 0)).leaves(2, b -> b.keptRows(0, 0));
        Edge.at("14: IllegalState: it has not, another has", HALF_KEPT)
            .refuses(STATE, b -> b.kept(0, 1))
            .refuses(STATE, b -> b.keptRows(0, 1));
        Edge.at("14: IllegalState: it has not, for that mark", HALF_KEPT)
            .refuses(STATE, b -> b.kept(1, 0))
            .refuses(STATE, b -> b.keptRows(1, 0));
        Edge.at("14: IllegalState: it has all it needs to keep", HALF_KEPT.turns(0, 1))
            .refuses(STATE, b -> b.kept(1, 0))
            .refuses(STATE, b -> b.keptRows(1, 0));
        Edge.at("14: IllegalState: it failed", Past.chain(1).marks(1).fails(0, 0).turns(0, 2))
            .refuses(STATE, b -> b.kept(0, 0))
            .refuses(STATE, b -> b.keptRows(0, 0));
        Edge.at("14: sum modulo 2^64", Past.chain(1).row(0, Long.MAX_VALUE).row(0, 2).marks(1).turns(0, 4))
            .leaves(Long.MIN_VALUE + 1, b -> b.kept(0, 0))
            .leaves(2, b -> b.keptRows(0, 0));
        Edge.at("15: 200 rows", Past.chain(1).rows(0, 200).marks(1).turns(0, 202))
            .leaves(20100, b -> b.kept(0, 0))
            .leaves(200, b -> b.keptRows(0, 0));
    }

    private static void keptStays() {
        Edge.at("14: kept, and given up then", HALF_KEPT.giveUp(0))
            .leaves(3, b -> b.kept(0, 0))
            .leaves(2, b -> b.keptRows(0, 0));
        Edge.at("14: kept, and rows come then", HALF_KEPT.row(0, 9).plays())
            .leaves(3, b -> b.kept(0, 0))
            .leaves(2, b -> b.keptRows(0, 0));
        Edge.at("14: kept, and all went back then", HALF_KEPT.plays().restore(0))
            .leaves(3, b -> b.kept(1, 0))
            .leaves(2, b -> b.keptRows(1, 0));
    }

    private static void positionBounds() {
        Past past = Past.join().rows(1, 2).marks(2);
        Edge.at("16: the last of each", past).leaves(2, b -> b.position(1, 1));
        outside("16: IndexOutOfBounds: mark", past, 2, (b, m) -> b.position(m, 0));
        outside("16: IndexOutOfBounds: channel", past, 4, (b, c) -> b.position(0, c));
        Edge.at("16: IndexOutOfBounds: a channel that is no source", past)
            .refuses(BOUNDS, b -> b.position(0, 2))
            .refuses(BOUNDS, b -> b.position(0, 3));
        Edge.at("16: IndexOutOfBounds: no marks", Past.chain(1)).refuses(BOUNDS, b -> b.position(0, 0));
        Edge.at("16: IndexOutOfBounds: no channels", Past.of(1).marks(1)).refuses(BOUNDS, b -> b.position(0, 0));
        Edge.at("16: the sixteenth channel", Past.fan(16).rows(15, 1).marks(1)).leaves(1, b -> b.position(0, 15));
        outside("16: IndexOutOfBounds: none behind sixteen", Past.fan(16).marks(1), 16, (b, c) -> b.position(0, c));
    }

    private static void positions() {
        Edge.at("16: behind none", Past.chain(1).marks(1).rows(0, 3)).leaves(0, b -> b.position(0, 0));
        Edge.at("16: behind 200", Past.chain(1).rows(0, 200).marks(1)).leaves(200, b -> b.position(0, 0));
        Edge.at("16: of each mark", Past.chain(1).rows(0, 1).marks(1).rows(0, 1).marks(1))
            .leaves(1, b -> b.position(0, 0))
            .leaves(2, b -> b.position(1, 0));
        Edge.at("16: of a mark that is complete, or given up",
            Past.chain(1).rows(0, 1).complete().rows(0, 1).marksGivenUp(1).restore(0))
            .leaves(1, b -> b.position(0, 0))
            .leaves(2, b -> b.position(1, 0));
    }

    private static void marksAsked() {
        Past none = Past.chain(1);
        Past two = Past.chain(1).complete().complete();
        Past forty = Past.chain(1).marksGivenUp(40);
        outside("17: IndexOutOfBounds: no marks", none, 0, BarrierMarks::condition);
        outside("17: IndexOutOfBounds", two, 2, BarrierMarks::condition);
        outside("17: IndexOutOfBounds: none behind forty", forty, 40, BarrierMarks::condition);
        outside("18: IndexOutOfBounds: no marks", none, 0, BarrierMarks::acknowledged);
        outside("18: IndexOutOfBounds", two, 2, BarrierMarks::acknowledged);
        outside("18: IndexOutOfBounds: none behind forty", forty, 40, BarrierMarks::acknowledged);
        outside("19: IndexOutOfBounds: no marks", none, 0, BarrierMarks::exact);
        outside("19: IndexOutOfBounds", two, 2, BarrierMarks::exact);
        outside("19: IndexOutOfBounds: none behind forty", forty, 40, BarrierMarks::exact);
        Edge.at("17: the last of two", two)
            .leaves(1, b -> b.condition(1))
            .leaves(1, b -> b.acknowledged(1))
            .leaves(true, b -> b.exact(1));
        Edge.at("17: the last of forty", forty).leaves(2, b -> b.condition(39)).leaves(0, b -> b.acknowledged(39));
    }

    private static void conditions() {
        Past kept = Past.chain(2).marks(1).turns(0, 2).turns(1, 2);
        Edge.at("17: 0 begun", kept.keeper(1)).leaves(0, b -> b.condition(0));
        Edge.at("17: 1 complete", kept.keeper(2)).leaves(1, b -> b.condition(0));
        Edge.at("17: 2 given up", kept.keeper(1).giveUp(0)).leaves(2, b -> b.condition(0));
        Edge.at("17: 2 given up, and stays so", kept.keeper(1).giveUp(0).keeper(1)).leaves(2, b -> b.condition(0));
    }

    private static void acknowledged() {
        Past kept = Past.chain(2).marks(2).turns(0, 4).turns(1, 4);
        Edge.at("18: none was taken", kept).leaves(0, b -> b.acknowledged(0));
        Edge.at("18: one was taken", kept.keeper(1))
            .leaves(1, b -> b.acknowledged(0))
            .leaves(0, b -> b.acknowledged(1));
        Edge.at("18: all were taken", kept.keeper(4))
            .leaves(2, b -> b.acknowledged(0))
            .leaves(2, b -> b.acknowledged(1));
        Edge.at("18: for how many tasks, not how often", kept.again(0, 0, 3).keeper(7))
            .leaves(2, b -> b.acknowledged(0))
            .leaves(2, b -> b.acknowledged(1));
        Edge.at("18: of one given up as many as before", kept.keeper(1).giveUp(0).keeper(3))
            .leaves(1, b -> b.acknowledged(0))
            .leaves(2, b -> b.acknowledged(1));
    }

    private static void exactOrNotComplete() {
        Past kept = Past.chain(2).rows(0, 3).marks(1).turns(0, 5).turns(1, 5);
        Edge.at("19: IllegalState: begun", kept.keeper(1)).refuses(STATE, b -> b.exact(0));
        Edge.at("19: complete", kept.keeper(2)).leaves(true, b -> b.exact(0));
        Edge.at("19: IllegalState: given up", kept.keeper(1).giveUp(0)).refuses(STATE, b -> b.exact(0));
    }

    private static void exactSums() {
        Edge.at("19: no channels", Past.of(3).complete()).leaves(true, b -> b.exact(0));
        Edge.at("19: no rows", Past.chain(3).complete().rows(0, 3).plays()).leaves(true, b -> b.exact(0));
        Edge.at("19: rows ahead and behind", Past.chain(3).rows(0, 3).complete().rows(0, 3).plays())
            .leaves(true, b -> b.exact(0));
        Edge.at("19: modulo 2^64", Past.chain(8).row(0, Long.MAX_VALUE).row(0, Long.MIN_VALUE).row(0, -1).complete())
            .leaves(true, b -> b.exact(0));
        Edge.at("19: against the numbers, by several ways",
            Past.of(4, NONE, 3, 3, 2, 3, 1, 2, 1, 1, 0, 3, 0, NONE, 0).rows(0, 5).rows(6, 4).complete())
            .leaves(true, b -> b.exact(0));
        Edge.at("19: when all went back, and on",
            Past.join().rows(0, 2).complete().rows(1, 3).complete().restore(0).rows(0, 1).complete())
            .leaves(true, b -> b.exact(0))
            .leaves(true, b -> b.exact(1))
            .leaves(true, b -> b.exact(2));
        Edge.at("19: with tasks that had ended", Past.join().rows(0, 2).finish(0).plays().rows(1, 2).complete())
            .leaves(true, b -> b.exact(0));
    }

    private static void channelsAsked() {
        Past none = Past.of(1);
        Past four = Past.join().rows(0, 1).plays();
        Past sixteen = Past.fan(16).rows(15, 2);
        outside("20: IndexOutOfBounds: no channels", none, 0, BarrierMarks::held);
        outside("20: IndexOutOfBounds", four, 4, BarrierMarks::held);
        outside("20: IndexOutOfBounds: none behind sixteen", sixteen, 16, BarrierMarks::held);
        outside("21: IndexOutOfBounds: no channels", none, 0, BarrierMarks::waiting);
        outside("21: IndexOutOfBounds", four, 4, BarrierMarks::waiting);
        outside("21: IndexOutOfBounds: none behind sixteen", sixteen, 16, BarrierMarks::waiting);
        Edge.at("20: the last of four", four).leaves(NONE, b -> b.held(3)).leaves(0, b -> b.waiting(3));
        Edge.at("20: the last of sixteen", sixteen).leaves(NONE, b -> b.held(15)).leaves(2, b -> b.waiting(15));
    }

    private static void held() {
        Past two = Past.fan(2).marks(2);
        Edge.at("20: none", two).leaves(NONE, b -> b.held(0));
        Edge.at("20: the mark 0 is not none", two.turns(0, 1)).leaves(0, b -> b.held(0)).leaves(NONE, b -> b.held(1));
        Edge.at("20: none, when it has kept", two.turns(0, 3)).leaves(NONE, b -> b.held(0));
        Edge.at("20: the next mark", two.turns(0, 4)).leaves(1, b -> b.held(0));
        Edge.at("20: none, when it is ended", Past.fan(2).finish(0).turns(0, 1)).leaves(NONE, b -> b.held(0));
        Edge.at("20: the last mark", Past.chain(1).marksGivenUp(39).marks(1).turns(0, 1)).leaves(39, b -> b.held(0));
    }

    private static void waiting() {
        Edge.at("21: an empty source", Past.chain(1)).leaves(0, b -> b.waiting(0));
        Edge.at("21: 200 rows of a source", Past.chain(1).rows(0, 200)).leaves(200, b -> b.waiting(0));
        Edge.at("21: from where it stands on", Past.chain(1).rows(0, 200).turns(0, 1)).leaves(199, b -> b.waiting(0));
        Edge.at("21: rows alone of a source", Past.chain(1).rows(0, 1).marks(1).finish(0))
            .leaves(1, b -> b.waiting(0));
        Edge.at("21: a source that has ended", Past.chain(1).rows(0, 1).finish(0).plays())
            .leaves(0, b -> b.waiting(0));
        Edge.at("21: things in a channel, of all kinds", Past.chain(2).rows(0, 1).marks(1).finish(0).turns(0, 5))
            .leaves(3, b -> b.waiting(1));
    }

    private static void thingsBounds() {
        Past three = Past.chain(2).rows(0, 1).marks(1).finish(0).turns(0, 5);
        Past nine = Past.chain(2).rows(0, 8).finish(0).turns(0, 10);
        outside("22: IndexOutOfBounds: channel", three, 2, (b, c) -> b.kind(c, 0));
        outside("23: IndexOutOfBounds: channel", three, 2, (b, c) -> b.value(c, 0));
        outside("22: IndexOutOfBounds: no such thing", three, 3, (b, k) -> b.kind(1, k));
        outside("23: IndexOutOfBounds: no such thing", three, 3, (b, k) -> b.value(1, k));
        outside("22: IndexOutOfBounds: none behind nine", nine, 9, (b, k) -> b.kind(1, k));
        outside("23: IndexOutOfBounds: none behind nine", nine, 9, (b, k) -> b.value(1, k));
        outside("22: IndexOutOfBounds: an empty channel", Past.chain(2).rows(0, 1), 0, (b, k) -> b.kind(1, k));
        outside("23: IndexOutOfBounds: an empty channel", Past.chain(2).rows(0, 1), 0, (b, k) -> b.value(1, k));
        outside("22: IndexOutOfBounds: nothing any more", nine.turns(1, 9), 0, (b, k) -> b.kind(1, k));
        outside("23: IndexOutOfBounds: nothing any more", nine.turns(1, 9), 0, (b, k) -> b.value(1, k));
        Edge.at("22: IndexOutOfBounds: also a source", Past.chain(2).rows(0, 2))
            .refuses(BOUNDS, b -> b.kind(0, 0))
            .refuses(BOUNDS, b -> b.kind(0, 1))
            .refuses(BOUNDS, b -> b.value(0, 0))
            .refuses(BOUNDS, b -> b.value(0, 1));
    }

    private static void things() {
        Past three = Past.chain(2).row(0, -1).marksGivenUp(1).marks(1).finish(0).turns(0, 5);
        Edge.at("22: the first, a row", three).leaves(0, b -> b.kind(1, 0)).leaves(-3, b -> b.value(1, 0));
        Edge.at("22: the second, a barrier", three).leaves(1, b -> b.kind(1, 1)).leaves(1, b -> b.value(1, 1));
        Edge.at("22: the last, an end", three).leaves(2, b -> b.kind(1, 2)).leaves(0, b -> b.value(1, 2));
        Edge.at("22: from 0, when the first was taken", three.turns(1, 1))
            .leaves(1, b -> b.kind(1, 0))
            .leaves(2, b -> b.kind(1, 1))
            .refuses(BOUNDS, b -> b.kind(1, 2))
            .refuses(BOUNDS, b -> b.value(1, 2));
        Edge.at("23: the mark 0 of a barrier", Past.chain(2).marks(1).turns(0, 2))
            .leaves(1, b -> b.kind(1, 0))
            .leaves(0, b -> b.value(1, 0));
    }

    private static void toldWhat() {
        int[] wrong = {-1, 4, 5, Integer.MAX_VALUE, Integer.MIN_VALUE};
        for (int what : wrong) {
            Edge.at("24: IllegalArgument: " + what, Past.join().marks(2)).refuses(ARGUMENT, b -> b.told(what));
        }
    }

    private static void told() {
        Edge.at("24: none of all", Past.of(1))
            .leaves(0, b -> b.told(0))
            .leaves(0, b -> b.told(1))
            .leaves(0, b -> b.told(2))
            .leaves(0, b -> b.told(3));
        Edge.at("24: sixteen channels", Past.fan(16)).leaves(16, b -> b.told(0));
        Edge.at("24: forty marks", Past.chain(1).marksGivenUp(40))
            .leaves(40, b -> b.told(1))
            .leaves(0, b -> b.told(3));
        Edge.at("24: acks of marks that are not begun wait too", Past.of(2).marks(1).giveUp(0))
            .leaves(2, b -> b.told(2));
        Edge.at("24: three are begun", Past.chain(1).marks(3)).leaves(3, b -> b.told(3));
        Edge.at("24: each by itself", Past.join().marks(3).giveUp(1).turns(0, 2))
            .leaves(4, b -> b.told(0))
            .leaves(3, b -> b.told(1))
            .leaves(1, b -> b.told(2))
            .leaves(2, b -> b.told(3));
    }
}
