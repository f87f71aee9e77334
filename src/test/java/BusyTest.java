import java.util.function.BiFunction;
import java.util.function.Function;

/** Calls that change nothing, by promise, on a web in the midst of its work. */
public final class BusyTest {
    private static final int NONE = BarrierMarks.NONE;
    private static final String BOUNDS = Check.BOUNDS;
    private static final String STATE = Check.STATE;
    private static final String ARGUMENT = Check.ARGUMENT;
    private static final int TASKS = 4;
    private static final int CHANNELS = 7;
    private static final int MARKS = 4;
    // Channels 0, 1 and 4 are sources. Mark 0 is complete, 1 given up, 2 and 3 are begun.
    private static final Past BUSY = Past.of(TASKS, NONE, 0, NONE, 0, 0, 1, 0, 2, NONE, 2, 1, 3, 2, 3)
        .row(0, 5).row(1, 6).row(4, 7).complete()
        .marks(1).turns(0, 3).giveUp(1)
        .row(0, 8).row(1, 20).row(0, 9).row(4, 30).marks(1)
        .row(0, 50).row(1, 60).row(0, 51).row(1, 61).row(4, 31).marks(1)
        .fails(3, 3).fails(1, 3)
        .turns(0, 8).turns(1, 2).turns(2, 4);

    public static void main(String[] args) {
        isBusy();
        building();
        going();
        marks();
        askedOfTasks();
        askedOfMarks();
        askedOfChannels();
        Check.end("BusyTest");
    }

    private static void isBusy() {
        Edge.at("busy: marks of each kind", BUSY)
            .leaves(1, b -> b.condition(0))
            .leaves(2, b -> b.condition(1))
            .leaves(0, b -> b.condition(2))
            .leaves(0, b -> b.condition(3));
        Edge.at("busy: acks wait", BUSY).leaves(2, b -> b.told(2));
        Edge.at("busy: task 0 has kept", BUSY).leaves(5 + 6 + 8 + 20 + 9, b -> b.kept(2, 0));
        Edge.at("busy: a channel is held", BUSY).leaves(2, b -> b.held(4));
        Edge.at("busy: task 0 goes on, and both its sources offer a row", BUSY)
            .leaves(48 + 60 + 50, b -> b.state(0))
            .leaves(1, b -> b.waiting(0))
            .leaves(1, b -> b.waiting(1));
        Edge.at("busy: the second of them is next", BUSY.turns(0, 1)).leaves(158 + 61, b -> b.state(0));
    }

    private static void refused(String promise, String exception, Function<BarrierMarks, Object> call) {
        Edge.at(promise + ": refused", BUSY).refuses(exception, call);
    }

    private static void asked(String promise, Function<BarrierMarks, Object> call) {
        Edge.at(promise + ": asked", BUSY).asks(call);
    }

    private static void outside(String promise, int count, BiFunction<BarrierMarks, Integer, Object> call) {
        int[] wrong = {-2, count, Integer.MAX_VALUE, Integer.MIN_VALUE};
        for (int number : wrong) {
            refused(promise + " of " + number, BOUNDS, b -> call.apply(b, number));
        }
    }

    private static Object fails(BarrierMarks b, int task, int mark) {
        b.fails(task, mark);
        return "told";
    }

    private static void building() {
        refused("2", STATE, b -> b.channel(NONE, 0));
        refused("2", STATE, b -> b.channel(3, 0));
        refused("2", BOUNDS, b -> b.channel(0, NONE));
        outside("2", TASKS, (b, t) -> b.channel(NONE, t));
        outside("2", TASKS, (b, t) -> b.channel(t, 0));
        refused("3", STATE, b -> b.send(2, 1));
        refused("3", BOUNDS, b -> b.send(NONE, 1));
        outside("3", CHANNELS, (b, c) -> b.send(c, 1));
        refused("4", STATE, b -> b.finish(2));
        refused("4", BOUNDS, b -> b.finish(NONE));
        outside("4", CHANNELS, BarrierMarks::finish);
        Edge.at("5: refused", BUSY.marks(1)).refuses(STATE, BarrierMarks::mark);
    }

    private static void going() {
        outside("6", TASKS, BarrierMarks::turn);
        int[] turns = {0, -1, 2001, Integer.MAX_VALUE, Integer.MIN_VALUE};
        for (int count : turns) {
            refused("7", ARGUMENT, b -> b.play(1, count));
        }
    }

    private static void marks() {
        refused("8", STATE, b -> b.giveUp(0));
        refused("8", STATE, b -> b.giveUp(1));
        refused("8", BOUNDS, b -> b.giveUp(NONE));
        outside("8", MARKS, BarrierMarks::giveUp);
        refused("9: complete", STATE, b -> fails(b, 3, 0));
        refused("9: given up", STATE, b -> fails(b, 3, 1));
        refused("9: has kept", STATE, b -> fails(b, 0, 2));
        refused("9: told so", STATE, b -> fails(b, 3, 3));
        outside("9", MARKS, (b, m) -> fails(b, 0, m));
        outside("9", TASKS, (b, t) -> fails(b, t, 2));
        refused("9", BOUNDS, b -> fails(b, NONE, 2));
        refused("10: complete", STATE, b -> b.again(0, 0));
        refused("10: given up", STATE, b -> b.again(1, 0));
        refused("10: has not kept", STATE, b -> b.again(2, 3));
        outside("10", MARKS, (b, m) -> b.again(m, 0));
        outside("10", TASKS, (b, t) -> b.again(2, t));
        refused("10", BOUNDS, b -> b.again(2, NONE));
        refused("11: given up", STATE, b -> b.restore(1));
        refused("11: begun", STATE, b -> b.restore(2));
        refused("11", BOUNDS, b -> b.restore(NONE));
        outside("11", MARKS, BarrierMarks::restore);
    }

    private static void askedOfTasks() {
        for (int t = NONE; t <= TASKS; t++) {
            int task = t;
            asked("12", b -> b.state(task));
            for (int w = -1; w <= 2; w++) {
                int what = w;
                asked("13", b -> b.task(task, what));
            }
        }
        for (int w = -1; w <= 4; w++) {
            int what = w;
            asked("24", b -> b.told(what));
        }
    }

    private static void askedOfMarks() {
        for (int m = NONE; m <= MARKS; m++) {
            int mark = m;
            asked("17", b -> b.condition(mark));
            asked("18", b -> b.acknowledged(mark));
            asked("19", b -> b.exact(mark));
            for (int t = NONE; t <= TASKS; t++) {
                int task = t;
                asked("14", b -> b.kept(mark, task));
                asked("15", b -> b.keptRows(mark, task));
            }
            for (int c = NONE; c <= CHANNELS; c++) {
                int channel = c;
                asked("16", b -> b.position(mark, channel));
            }
        }
    }

    private static void askedOfChannels() {
        for (int c = NONE; c <= CHANNELS; c++) {
            int channel = c;
            asked("20", b -> b.held(channel));
            asked("21", b -> b.waiting(channel));
            for (int k = -1; k <= 9; k++) {
                int at = k;
                asked("22", b -> b.kind(channel, at));
                asked("23", b -> b.value(channel, at));
            }
        }
    }
}
