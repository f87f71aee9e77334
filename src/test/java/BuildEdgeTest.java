/** The boundaries of promises 1 to 5: a new object, channel, send, finish, mark. */
public final class BuildEdgeTest {
    private static final int NONE = BarrierMarks.NONE;
    private static final int LEAST = Integer.MIN_VALUE;
    private static final int MOST = Integer.MAX_VALUE;
    private static final String BOUNDS = Check.BOUNDS;
    private static final String STATE = Check.STATE;
    private static final String ARGUMENT = Check.ARGUMENT;

    public static void main(String[] args) {
        tasksBelowAndAbove();
        nothingAtFirst();
        channelBounds();
        channelSixteen();
        channelWhenTold();
        channelRing();
        channelFromTaskWithoutOne();
        channelFirstOfSeveral();
        sendBounds();
        sendNoSource();
        sendBehindEnd();
        sendTwoHundred();
        sendAnyRow();
        finishBounds();
        finishNoSource();
        finishTwice();
        finishRows();
        markThreeBegun();
        markForty();
        markPositions();
        markAheadOfEnd();
        markAfterEndWasTaken();
        markKeepsAtOnce();
        Check.end("BuildEdgeTest");
    }

    private static void tasksBelowAndAbove() {
        int[] below = {LEAST, -1, 0};
        for (int asked : below) {
            tasks("1: below 1: 1", asked, 1);
        }
        for (int asked = 1; asked <= 8; asked++) {
            tasks("1: so many tasks", asked, asked);
        }
        int[] above = {9, 10, MOST};
        for (int asked : above) {
            tasks("1: above 8: 8", asked, 8);
        }
    }

    private static void tasks(String sentence, int asked, int made) {
        Edge.at(sentence + " (" + asked + ")", Past.of(asked))
            .leaves(0, b -> b.state(0))
            .leaves(0, b -> b.state(made - 1))
            .refuses(BOUNDS, b -> b.state(made))
            .answers(0, b -> b.channel(NONE, made - 1))
            .refuses(BOUNDS, b -> b.channel(NONE, made));
        Edge.at(sentence + " keep at once (" + asked + ")", Past.of(asked).marks(1))
            .leaves(made, b -> b.told(2));
    }

    private static void nothingAtFirst() {
        Edge.at("1: no channels", Past.of(3))
            .leaves(0, b -> b.told(0))
            .refuses(BOUNDS, b -> b.waiting(0))
            .refuses(BOUNDS, b -> b.send(0, 1))
            .answers(0, b -> b.channel(NONE, 0));
        Edge.at("1: no marks", Past.of(3))
            .leaves(0, b -> b.told(1))
            .leaves(0, b -> b.told(2))
            .leaves(0, b -> b.told(3))
            .refuses(BOUNDS, b -> b.condition(0))
            .leaves(0, b -> b.turn(NONE))
            .answers(0, BarrierMarks::mark);
        Check.due("NONE = -1", -1, () -> BarrierMarks.NONE);
    }

    private static void channelBounds() {
        Edge.at("2: IndexOutOfBounds, where it leads to", Past.of(3, NONE, 0, NONE, 2))
            .answers(2, b -> b.channel(NONE, 0))
            .answers(2, b -> b.channel(NONE, 2))
            .refuses(BOUNDS, b -> b.channel(NONE, 3))
            .refuses(BOUNDS, b -> b.channel(NONE, NONE))
            .refuses(BOUNDS, b -> b.channel(0, NONE))
            .refuses(BOUNDS, b -> b.channel(NONE, MOST))
            .refuses(BOUNDS, b -> b.channel(NONE, LEAST));
        Edge.at("2: IndexOutOfBounds, where it leads from", Past.of(3, NONE, 0, NONE, 2))
            .answers(2, b -> b.channel(NONE, 1))
            .answers(2, b -> b.channel(0, 1))
            .answers(2, b -> b.channel(2, 1))
            .refuses(BOUNDS, b -> b.channel(3, 1))
            .refuses(BOUNDS, b -> b.channel(-2, 1))
            .refuses(BOUNDS, b -> b.channel(MOST, 1))
            .refuses(BOUNDS, b -> b.channel(LEAST, 1));
    }

    private static void channelSixteen() {
        Edge.at("2: there are fifteen sources", Past.fan(15))
            .answers(15, b -> b.channel(NONE, 0));
        Edge.at("2: IllegalState: there are sixteen sources", Past.fan(16))
            .leaves(16, b -> b.told(0))
            .refuses(STATE, b -> b.channel(NONE, 0));
        Edge.at("2: there are fifteen, between tasks", linesFromOneTask(14))
            .answers(15, b -> b.channel(0, 1));
        Edge.at("2: IllegalState: there are sixteen, between tasks", linesFromOneTask(15))
            .refuses(STATE, b -> b.channel(0, 1));
        Edge.at("2: sixteen carry rows", linesFromOneTask(15).rows(0, 1).turns(0, 1))
            .leaves(1, b -> b.waiting(1))
            .leaves(1, b -> b.waiting(15))
            .turns(1, "1111111111111110");
    }

    private static Past linesFromOneTask(int lines) {
        return Past.of(2, NONE, 0).channels(lines, 0, 1);
    }

    private static void channelWhenTold() {
        Edge.at("2: none was told, whatever turns there were", Past.chain(2).plays())
            .answers(2, b -> b.channel(NONE, 1));
        Edge.at("2: IllegalState: a row was told", Past.chain(2).rows(0, 1))
            .refuses(STATE, b -> b.channel(NONE, 1));
        Edge.at("2: IllegalState: a row was told, and taken", Past.chain(2).rows(0, 1).plays())
            .refuses(STATE, b -> b.channel(NONE, 1));
        Edge.at("2: IllegalState: an end was told", Past.chain(2).finish(0))
            .refuses(STATE, b -> b.channel(NONE, 1));
        Edge.at("2: IllegalState: a mark was told", Past.chain(2).marks(1))
            .refuses(STATE, b -> b.channel(NONE, 1));
        Edge.at("2: IllegalState: a mark was told without a channel", Past.of(2).marks(1))
            .refuses(STATE, b -> b.channel(NONE, 1));
        Edge.at("2: IllegalState: a mark was told, and given up", Past.chain(2).marksGivenUp(1))
            .refuses(STATE, b -> b.channel(NONE, 1));
    }

    private static void channelRing() {
        Edge.at("2: IllegalArgument: a ring of one", Past.chain(8))
            .refuses(ARGUMENT, b -> b.channel(0, 0))
            .refuses(ARGUMENT, b -> b.channel(7, 7));
        Edge.at("2: IllegalArgument: a ring of two", Past.chain(8))
            .refuses(ARGUMENT, b -> b.channel(1, 0))
            .refuses(ARGUMENT, b -> b.channel(7, 6));
        Edge.at("2: IllegalArgument: a ring of all", Past.chain(8))
            .refuses(ARGUMENT, b -> b.channel(7, 0))
            .answers(8, b -> b.channel(0, 7));
        Edge.at("2: IllegalArgument: a ring against the numbers", Past.of(4, NONE, 3, 3, 2, 2, 1, 1, 0))
            .refuses(ARGUMENT, b -> b.channel(0, 3))
            .answers(4, b -> b.channel(3, 0));
        Edge.at("2: IllegalArgument: a ring whose channels were made from its end on",
            Past.of(4, NONE, 0, NONE, 1, NONE, 2, NONE, 3, 2, 3, 1, 2, 0, 1))
            .refuses(ARGUMENT, b -> b.channel(3, 0))
            .answers(7, b -> b.channel(0, 3));
        Edge.at("2: two ways to one task are no ring", Past.of(4, NONE, 0, 0, 1, 0, 2, 1, 3, 2, 3))
            .answers(5, b -> b.channel(1, 2))
            .answers(5, b -> b.channel(2, 1))
            .answers(5, b -> b.channel(0, 1))
            .refuses(ARGUMENT, b -> b.channel(3, 0));
        Edge.at("2: IllegalArgument: across two ways", Past.of(4, NONE, 0, 0, 1, 0, 2, 1, 3, 2, 3, 1, 2))
            .refuses(ARGUMENT, b -> b.channel(2, 1));
        Edge.at("2: outside is in no ring", Past.chain(2))
            .answers(2, b -> b.channel(NONE, 0))
            .answers(2, b -> b.channel(NONE, 1));
    }

    private static void channelFromTaskWithoutOne() {
        Edge.at("2: IllegalArgument: the task has no channel into it", Past.of(3, NONE, 0))
            .refuses(ARGUMENT, b -> b.channel(1, 2))
            .refuses(ARGUMENT, b -> b.channel(2, 0))
            .answers(1, b -> b.channel(0, 2));
        Edge.at("2: IllegalArgument: no task has one", Past.of(2))
            .refuses(ARGUMENT, b -> b.channel(0, 1))
            .refuses(ARGUMENT, b -> b.channel(0, 0));
        Edge.at("2: the task has one channel into it", Past.of(3, NONE, 0, 0, 1))
            .answers(2, b -> b.channel(1, 2))
            .refuses(ARGUMENT, b -> b.channel(2, 0));
    }

    private static void channelFirstOfSeveral() {
        Edge.at("2: the first of several: sixteen, and no task", Past.fan(16))
            .refuses(BOUNDS, b -> b.channel(NONE, 1))
            .refuses(BOUNDS, b -> b.channel(1, 0));
        Edge.at("2: the first of several: sixteen, and a ring", Past.fan(16))
            .refuses(STATE, b -> b.channel(0, 0));
        Edge.at("2: the first of several: told, and no task", Past.chain(2).rows(0, 1))
            .refuses(BOUNDS, b -> b.channel(2, 0))
            .refuses(BOUNDS, b -> b.channel(0, 2));
        Edge.at("2: the first of several: told, and a ring", Past.chain(2).rows(0, 1))
            .refuses(STATE, b -> b.channel(1, 0));
        Edge.at("2: the first of several: told, and no channel into it", Past.of(2, NONE, 0).rows(0, 1))
            .refuses(STATE, b -> b.channel(1, 0));
        Edge.at("2: the first of several: no channel into it, and no task", Past.of(2))
            .refuses(BOUNDS, b -> b.channel(0, 2))
            .refuses(BOUNDS, b -> b.channel(0, NONE));
    }

    private static void sendBounds() {
        Edge.at("3: IndexOutOfBounds: no channel", Past.of(2, NONE, 0, NONE, 1))
            .answers(1, b -> b.send(0, 5))
            .answers(1, b -> b.send(1, 5))
            .refuses(BOUNDS, b -> b.send(2, 5))
            .refuses(BOUNDS, b -> b.send(NONE, 5))
            .refuses(BOUNDS, b -> b.send(MOST, 5))
            .refuses(BOUNDS, b -> b.send(LEAST, 5));
        Edge.at("3: IndexOutOfBounds: none behind sixteen", Past.fan(16))
            .answers(1, b -> b.send(15, 5))
            .refuses(BOUNDS, b -> b.send(16, 5));
    }

    private static void sendNoSource() {
        Edge.at("3: IllegalState: it is no source", Past.join())
            .answers(1, b -> b.send(1, 5))
            .refuses(STATE, b -> b.send(2, 5))
            .refuses(STATE, b -> b.send(3, 5));
    }

    private static void sendBehindEnd() {
        Edge.at("3: IllegalState: has its end", Past.fan(2).finish(0))
            .refuses(STATE, b -> b.send(0, 5))
            .answers(1, b -> b.send(1, 5));
        Edge.at("3: IllegalState: has its end behind a row", Past.fan(2).rows(0, 1).finish(0))
            .refuses(STATE, b -> b.send(0, 5));
        Edge.at("3: IllegalState: its end was taken", Past.fan(2).finish(0).turns(0, 1))
            .refuses(STATE, b -> b.send(0, 5));
        Edge.at("3: IllegalState: all have ended", Past.chain(2).finish(0).plays())
            .refuses(STATE, b -> b.send(0, 5));
        Edge.at("3: IllegalState: has its end, also when all went back ahead of it",
            Past.chain(2).marks(1).plays().finish(0).restore(0))
            .refuses(STATE, b -> b.send(0, 5));
    }

    private static void sendTwoHundred() {
        Edge.at("3: 199 rows", Past.fan(2).rows(0, 199))
            .answers(200, b -> b.send(0, 5))
            .answers(1, b -> b.send(1, 5));
        Edge.at("3: IllegalState: 200 rows", Past.fan(2).rows(0, 200))
            .leaves(200, b -> b.waiting(0))
            .refuses(STATE, b -> b.send(0, 5))
            .answers(1, b -> b.send(1, 5));
        Edge.at("3: IllegalState: 200 rows, all taken", Past.chain(1).rows(0, 200).plays())
            .leaves(0, b -> b.waiting(0))
            .leaves(200, b -> b.task(0, 0))
            .leaves(20100, b -> b.state(0))
            .refuses(STATE, b -> b.send(0, 5));
        Edge.at("3: IllegalState: 200 rows, and its end", Past.chain(1).rows(0, 200).finish(0))
            .refuses(STATE, b -> b.send(0, 5));
        Edge.at("3: the log stays when all goes back",
            Past.chain(1).rows(0, 100).marks(1).plays().rows(0, 99).restore(0))
            .answers(200, b -> b.send(0, 5))
            .answers(STATE, b -> {
                b.send(0, 5);
                return Check.told(() -> b.send(0, 5));
            });
    }

    private static void sendAnyRow() {
        long[] rows = {0, 1, -1, MOST, LEAST, Long.MAX_VALUE, Long.MIN_VALUE};
        for (long v : rows) {
            Edge.at("3: a row " + v, Past.chain(2).row(0, v).turns(0, 1))
                .leaves(v, b -> b.state(0))
                .leaves(3 * v, b -> b.value(1, 0));
        }
    }

    private static void finishBounds() {
        Edge.at("4: IndexOutOfBounds: no channel", Past.of(2, NONE, 0, NONE, 1))
            .answers(0, b -> b.finish(0))
            .answers(0, b -> b.finish(1))
            .refuses(BOUNDS, b -> b.finish(2))
            .refuses(BOUNDS, b -> b.finish(NONE))
            .refuses(BOUNDS, b -> b.finish(MOST))
            .refuses(BOUNDS, b -> b.finish(LEAST));
        Edge.at("4: IndexOutOfBounds: no channel at all", Past.of(1))
            .refuses(BOUNDS, b -> b.finish(0));
    }

    private static void finishNoSource() {
        Edge.at("4: IllegalState: it is no source", Past.join())
            .answers(0, b -> b.finish(1))
            .refuses(STATE, b -> b.finish(2))
            .refuses(STATE, b -> b.finish(3));
    }

    private static void finishTwice() {
        Edge.at("4: IllegalState: has its end", Past.fan(2).finish(0))
            .refuses(STATE, b -> b.finish(0))
            .answers(0, b -> b.finish(1));
        Edge.at("4: IllegalState: its end was taken", Past.fan(2).finish(0).turns(0, 1))
            .refuses(STATE, b -> b.finish(0));
        Edge.at("4: IllegalState: has its end, also when all went back ahead of it",
            Past.chain(2).marks(1).plays().finish(0).plays().restore(0))
            .refuses(STATE, b -> b.finish(0))
            .turns(0, "36");
    }

    private static void finishRows() {
        Edge.at("4: no row", Past.chain(1)).answers(0, b -> b.finish(0));
        Edge.at("4: one row", Past.chain(1).rows(0, 1)).answers(1, b -> b.finish(0));
        Edge.at("4: 200 rows", Past.chain(1).rows(0, 200)).answers(200, b -> b.finish(0));
        Edge.at("4: rows that were taken count too", Past.chain(1).rows(0, 3).plays())
            .answers(3, b -> b.finish(0));
    }

    private static void markThreeBegun() {
        Edge.at("5: two are begun", Past.chain(2).marks(2)).answers(2, BarrierMarks::mark);
        Edge.at("5: IllegalState: three are begun", Past.chain(2).marks(3))
            .leaves(3, b -> b.told(3))
            .refuses(STATE, BarrierMarks::mark);
        Edge.at("5: IllegalState: three are begun, and tasks would keep at once", Past.of(3, NONE, 1).marks(3))
            .leaves(6, b -> b.told(2))
            .refuses(STATE, BarrierMarks::mark);
        for (int m = 0; m < 3; m++) {
            int gone = m;
            Edge.at("5: three, and one is given up", Past.chain(2).marks(3).giveUp(gone))
                .answers(3, BarrierMarks::mark)
                .answers(STATE, b -> {
                    b.mark();
                    return Check.told(b::mark);
                });
        }
        Edge.at("5: three, and one is complete", Past.chain(1).marks(3).turns(0, 2).turns(NONE, 1))
            .leaves(2, b -> b.told(3))
            .answers(3, BarrierMarks::mark);
        Edge.at("5: three, and one is given up since a task failed",
            Past.chain(2).marks(3).fails(0, 0).turns(0, 2))
            .leaves(2, b -> b.told(3))
            .answers(3, BarrierMarks::mark);
        Edge.at("5: three, and all went back", Past.chain(2).marks(1).plays().marks(3).restore(0))
            .leaves(0, b -> b.told(3))
            .answers("456", b -> "" + b.mark() + b.mark() + b.mark());
    }

    private static void markForty() {
        Edge.at("5: there are thirty-nine", Past.chain(1).marksGivenUp(39)).answers(39, BarrierMarks::mark);
        Edge.at("5: IllegalState: there are forty, none begun", Past.chain(1).marksGivenUp(40))
            .leaves(40, b -> b.told(1))
            .leaves(0, b -> b.told(3))
            .refuses(STATE, BarrierMarks::mark);
        Edge.at("5: IllegalState: there are forty, one begun", Past.chain(1).marksGivenUp(39).marks(1))
            .refuses(STATE, BarrierMarks::mark);
        Edge.at("5: IllegalState: there are forty, and three are begun",
            Past.chain(1).marksGivenUp(37).marks(3))
            .refuses(STATE, BarrierMarks::mark);
        Edge.at("5: thirty-nine are complete", marksComplete(39)).answers(39, BarrierMarks::mark);
        Edge.at("5: IllegalState: forty are complete", marksComplete(40)).refuses(STATE, BarrierMarks::mark);
        Past last = Past.chain(2).rows(0, 2).marksGivenUp(39).marks(1);
        Edge.at("5: the last mark is as others", last).leaves(2, b -> b.position(39, 0)).turns(0, "1124");
        Edge.at("5: the last mark is held", last.turns(0, 3)).leaves(39, b -> b.held(0));
        Edge.at("5: the last mark goes on", last.turns(0, 4)).leaves(39, b -> b.value(1, 2));
        Edge.at("5: the last mark is complete", last.plays())
            .leaves(1, b -> b.condition(39))
            .answers(0, b -> b.restore(39));
    }

    private static Past marksComplete(int count) {
        Past past = Past.of(1);
        for (int i = 0; i < count; i++) {
            past = past.marks(1).keeper(1);
        }
        return past;
    }

    private static void markPositions() {
        Edge.at("5: behind no row", Past.chain(1).marks(1).rows(0, 1))
            .leaves(0, b -> b.position(0, 0))
            .turns(0, "2410");
        Edge.at("5: behind one row", Past.chain(1).rows(0, 1).marks(1).rows(0, 1))
            .leaves(1, b -> b.position(0, 0))
            .turns(0, "12410");
        Edge.at("5: behind 200 rows", Past.chain(1).rows(0, 200).marks(1))
            .leaves(200, b -> b.position(0, 0))
            .turns(0, "1".repeat(200) + "240");
        Edge.at("5: behind rows that were taken", Past.chain(1).rows(0, 3).plays().marks(1))
            .leaves(3, b -> b.position(0, 0))
            .turns(0, "240");
        Edge.at("5: behind the rows that each source has", Past.fan(3).rows(2, 2).rows(0, 1).marks(1))
            .leaves(1, b -> b.position(0, 0))
            .leaves(0, b -> b.position(0, 1))
            .leaves(2, b -> b.position(0, 2));
        Edge.at("5: behind all rows of the log, when all went back",
            Past.chain(1).complete().rows(0, 3).plays().restore(0).marks(1))
            .leaves(3, b -> b.position(1, 0))
            .turns(0, "111240");
        Past three = Past.chain(1).marks(3);
        Edge.at("Terms: of the least mark, of several put there", three).turns(0, "2424240");
        Edge.at("Terms: of the least mark: the first", three.turns(0, 1)).leaves(0, b -> b.held(0));
        Edge.at("Terms: of the least mark: the second", three.turns(0, 3)).leaves(1, b -> b.held(0));
        Edge.at("Terms: of the least mark: the third", three.turns(0, 5)).leaves(2, b -> b.held(0));
        Edge.at("Terms: of the least mark that is begun", three.giveUp(0)).turns(0, "24240");
        Edge.at("Terms: of the least mark that is begun: the second", three.giveUp(0).turns(0, 1))
            .leaves(1, b -> b.held(0));
        Edge.at("Terms: of the least mark that is begun: the third", three.giveUp(0).giveUp(1).turns(0, 1))
            .leaves(2, b -> b.held(0));
    }

    private static void markAheadOfEnd() {
        Edge.at("5: also behind an end: it comes ahead of that", Past.chain(1).finish(0).marks(1))
            .leaves(0, b -> b.position(0, 0))
            .turns(0, "24360");
        Edge.at("5: also behind an end: behind the rows", Past.chain(1).rows(0, 2).finish(0).marks(1))
            .leaves(2, b -> b.position(0, 0))
            .turns(0, "1124360");
        Edge.at("5: three ahead of an end", Past.chain(1).finish(0).marks(3))
            .turns(0, "242424360");
    }

    private static void markAfterEndWasTaken() {
        Past ended = Past.fan(2).finish(0).turns(0, 1).marks(1);
        Edge.at("5: what has ended brings no barrier", ended).turns(0, "240");
        Edge.at("5: what has ended is not held", ended.turns(0, 1))
            .leaves(NONE, b -> b.held(0))
            .leaves(0, b -> b.held(1));
    }

    private static void markKeepsAtOnce() {
        Edge.at("Terms: has no channel into it, when a mark begins", Past.of(3, NONE, 1).marks(1))
            .leaves(2, b -> b.told(2))
            .leaves(0, b -> b.kept(0, 0))
            .leaves(0, b -> b.kept(0, 2))
            .refuses(STATE, b -> b.kept(0, 1));
        Edge.at("Terms: all but its end was taken, when a mark begins",
            Past.chain(1).rows(0, 2).finish(0).turns(0, 2).marks(1))
            .leaves(0, b -> b.told(2));
        Edge.at("Terms: its end was taken, but it has not ended, when a mark begins",
            Past.chain(1).rows(0, 2).finish(0).turns(0, 3).marks(1))
            .leaves(0, b -> b.told(2))
            .refuses(STATE, b -> b.kept(0, 0))
            .turns(0, "60");
        Edge.at("Terms: has ended, when a mark begins",
            Past.chain(1).rows(0, 2).finish(0).turns(0, 4).marks(1))
            .leaves(1, b -> b.told(2))
            .leaves(3, b -> b.kept(0, 0))
            .leaves(2, b -> b.keptRows(0, 0))
            .turns(NONE, "80");
    }
}
