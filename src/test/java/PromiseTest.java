/** Each promise by itself: ordinary inputs, the edges that the document names, wrong inputs. */
public final class PromiseTest {
    private static final int NONE = BarrierMarks.NONE;
    private static final String BOUNDS = Check.BOUNDS;
    private static final String STATE = Check.STATE;
    private static final String ARGUMENT = Check.ARGUMENT;

    public static void main(String[] args) {
        newObject();
        channel();
        channelLimit();
        send();
        finish();
        mark();
        markLimit();
        markPlaces();
        turnRows();
        turnRound();
        turnCredits();
        turnBarriers();
        turnKeepNeedsCredit();
        turnEnds();
        turnKeeper();
        marksAtOnce();
        play();
        giveUp();
        fails();
        again();
        restore();
        restoreEnded();
        stateAndTask();
        kept();
        position();
        condition();
        exact();
        held();
        waitingKindValue();
        told();
        Check.end("PromiseTest");
    }

    private static void turns(String name, BarrierMarks b, int task, int... answers) {
        for (int i = 0; i < answers.length; i++) {
            Check.due(name + ": turn " + i + " of " + task, answers[i], () -> b.turn(task));
        }
    }

    private static void keeps(String name, BarrierMarks b, int task) {
        turns(name, b, task, 2, 4);
    }

    private static void newObject() {
        int[][] sizes = {{Integer.MIN_VALUE, 1}, {-1, 1}, {0, 1}, {1, 1}, {2, 2}, {8, 8}, {9, 8}, {Integer.MAX_VALUE, 8}};
        for (int[] size : sizes) {
            BarrierMarks b = new BarrierMarks(size[0]);
            int last = size[1] - 1;
            Check.due("1: last task of " + size[0], 0, () -> b.state(last));
            Check.due("1: behind the last of " + size[0], BOUNDS, () -> b.state(last + 1));
            Check.due("1: channels", 0, () -> b.told(0));
            Check.due("1: marks", 0, () -> b.told(1));
            Check.due("1: acks", 0, () -> b.told(2));
            Check.due("1: begun", 0, () -> b.told(3));
            Check.due("1: keeper", 0, () -> b.turn(NONE));
            Check.due("1: rows", 0, () -> b.task(last, 0));
            Check.due("1: ended", 0, () -> b.task(last, 1));
        }
        Check.due("1: NONE", -1, () -> BarrierMarks.NONE);
    }

    private static void channel() {
        BarrierMarks b = new BarrierMarks(4);
        Check.due("2: from below", BOUNDS, () -> b.channel(-2, 0));
        Check.due("2: from above", BOUNDS, () -> b.channel(4, 0));
        Check.due("2: to outside", BOUNDS, () -> b.channel(NONE, NONE));
        Check.due("2: to above", BOUNDS, () -> b.channel(NONE, 4));
        Check.due("2: from a task without a channel", ARGUMENT, () -> b.channel(0, 1));
        Check.due("2: to itself", ARGUMENT, () -> b.channel(0, 0));
        Check.due("2: first", 0, () -> b.channel(NONE, 2));
        Check.due("2: to itself, with a channel", ARGUMENT, () -> b.channel(2, 2));
        Check.due("2: second", 1, () -> b.channel(2, 1));
        Check.due("2: third", 2, () -> b.channel(1, 0));
        Check.due("2: ring of two", ARGUMENT, () -> b.channel(1, 2));
        Check.due("2: ring of three", ARGUMENT, () -> b.channel(0, 2));
        Check.due("2: beside", 3, () -> b.channel(2, 0));
        Check.due("2: twice the same", 4, () -> b.channel(2, 0));
        Check.due("2: a new source of an old task", 5, () -> b.channel(NONE, 0));
        Check.due("2: the last has none into it", ARGUMENT, () -> b.channel(3, 2));
        Check.due("2: the last task", 6, () -> b.channel(NONE, 3));
        Check.due("2: against the numbers", 7, () -> b.channel(3, 2));
        Check.due("2: ring of four", ARGUMENT, () -> b.channel(0, 3));
        Check.due("2: turns do not close it", 0, () -> b.turn(0));
        Check.due("2: still open", 8, () -> b.channel(NONE, 0));
    }

    private static void channelLimit() {
        BarrierMarks b = new BarrierMarks(2);
        for (int c = 0; c < 16; c++) {
            int number = c;
            Check.due("2: channel " + c, number, () -> b.channel(number == 0 ? NONE : 0, number == 0 ? 0 : 1));
        }
        Check.due("2: the seventeenth", STATE, () -> b.channel(NONE, 0));
        Check.due("2: state ahead of ring", STATE, () -> b.channel(1, 0));
        Check.due("2: bounds ahead of state", BOUNDS, () -> b.channel(2, 0));
        Check.due("2: sixteen", 16, () -> b.told(0));
        BarrierMarks sent = Webs.chain(2);
        sent.send(0, 1);
        BarrierMarks finished = Webs.chain(2);
        finished.finish(0);
        BarrierMarks marked = Webs.chain(2);
        marked.mark();
        BarrierMarks[] closed = {sent, finished, marked};
        for (BarrierMarks each : closed) {
            Check.due("2: closed", STATE, () -> each.channel(NONE, 0));
            Check.due("2: closed, and a ring", STATE, () -> each.channel(1, 0));
            Check.due("2: closed, and no task", BOUNDS, () -> each.channel(NONE, 2));
        }
        BarrierMarks refused = Webs.chain(2);
        Check.due("2: a send that throws", STATE, () -> refused.send(1, 5));
        Check.due("2: a finish that throws", STATE, () -> refused.finish(1));
        Check.due("2: leaves it open", 2, () -> refused.channel(NONE, 1));
    }

    private static void send() {
        BarrierMarks b = Webs.chain(2);
        Check.due("3: no channel", BOUNDS, () -> b.send(2, 1));
        Check.due("3: outside", BOUNDS, () -> b.send(NONE, 1));
        Check.due("3: no source", STATE, () -> b.send(1, 1));
        for (int i = 1; i <= 200; i++) {
            int rows = i;
            Check.due("3: row " + i, rows, () -> b.send(0, rows));
        }
        Check.due("3: row 201", STATE, () -> b.send(0, 1));
        Check.due("3: two hundred wait", 200, () -> b.waiting(0));
        Check.due("3: taken", 1, () -> b.turn(0));
        Check.due("3: a row that was taken still counts", STATE, () -> b.send(0, 1));
        BarrierMarks c = Webs.chain(1);
        c.send(0, 7);
        c.finish(0);
        Check.due("3: behind an end", STATE, () -> c.send(0, 1));
        BarrierMarks two = Webs.join();
        Check.due("3: of one source", 1, () -> two.send(0, 1));
        Check.due("3: of the other", 1, () -> two.send(1, 1));
        Check.due("3: of the one again", 2, () -> two.send(0, 1));
    }

    private static void finish() {
        BarrierMarks b = Webs.chain(2);
        Check.due("4: no channel", BOUNDS, () -> b.finish(2));
        Check.due("4: outside", BOUNDS, () -> b.finish(NONE));
        Check.due("4: no source", STATE, () -> b.finish(1));
        b.send(0, 3);
        b.send(0, 4);
        Check.due("4: two rows", 2, () -> b.finish(0));
        Check.due("4: again", STATE, () -> b.finish(0));
        turns("4: rows and the end", b, 0, 1, 1, 3, 6, 0);
        Check.due("4: when all was taken", STATE, () -> b.finish(0));
        BarrierMarks full = Webs.chain(1);
        for (int i = 0; i < 200; i++) {
            full.send(0, i);
        }
        Check.due("4: a full log", 200, () -> full.finish(0));
    }

    private static void mark() {
        BarrierMarks b = Webs.chain(2);
        Check.due("5: first", 0, b::mark);
        Check.due("5: second", 1, b::mark);
        Check.due("5: third", 2, b::mark);
        Check.due("5: three are begun", STATE, b::mark);
        Check.due("5: still three", 3, () -> b.told(1));
        b.giveUp(1);
        Check.due("5: two are begun", 3, b::mark);
        Check.due("5: three again", STATE, b::mark);
        BarrierMarks alone = new BarrierMarks(3);
        Check.due("5: without channels", 0, alone::mark);
        Check.due("5: all keep at once", 3, () -> alone.told(2));
        Check.due("5: kept", 0, () -> alone.kept(0, 2));
        turns("5: without channels", alone, NONE, 7, 7, 8, 0);
        BarrierMarks mixed = new BarrierMarks(3);
        mixed.channel(NONE, 1);
        mixed.mark();
        Check.due("5: those without a channel keep", 2, () -> mixed.told(2));
        Check.due("5: the first did", 0, () -> mixed.kept(0, 0));
        Check.due("5: that with a channel did not", STATE, () -> mixed.kept(0, 1));
        Check.due("5: the last did", 0, () -> mixed.kept(0, 2));
    }

    private static void markLimit() {
        BarrierMarks b = Webs.chain(1);
        for (int m = 0; m < 40; m++) {
            int number = m;
            Check.due("5: mark " + m, number, b::mark);
            b.giveUp(m);
        }
        Check.due("5: the forty-first", STATE, b::mark);
        Check.due("5: forty", 40, () -> b.told(1));
        Check.due("5: none begun", 0, () -> b.told(3));
    }

    private static void markPlaces() {
        BarrierMarks b = Webs.chain(1);
        b.send(0, 1);
        b.mark();
        b.mark();
        b.send(0, 2);
        b.finish(0);
        b.mark();
        turns("5: barriers behind rows, the least mark first, ahead of the end", b, 0, 1, 2, 4, 2, 4, 1, 2, 4, 3, 6);
        Check.due("5: first kept", 1, () -> b.kept(0, 0));
        Check.due("5: second kept", 1, () -> b.kept(1, 0));
        Check.due("5: third kept", 3, () -> b.kept(2, 0));
        BarrierMarks dropped = Webs.chain(1);
        dropped.mark();
        dropped.mark();
        dropped.giveUp(0);
        turns("5: only begun marks send", dropped, 0, 2);
        Check.due("5: of the second", 1, () -> dropped.held(0));
        BarrierMarks ended = Webs.join();
        ended.finish(0);
        turns("5: the end was taken", ended, 0, 3);
        ended.mark();
        turns("5: what has ended brings no barrier", ended, 0, 6);
        Check.due("5: but it keeps when it ends", 0, () -> ended.kept(0, 0));
    }

    private static void turnRows() {
        BarrierMarks b = new BarrierMarks(3);
        b.channel(NONE, 2);
        b.channel(2, 1);
        b.channel(2, 0);
        Check.due("6: below", BOUNDS, () -> b.turn(-2));
        Check.due("6: above", BOUNDS, () -> b.turn(3));
        turns("6: nothing to take", b, 2, 0);
        b.send(0, Long.MAX_VALUE);
        b.send(0, 5);
        turns("6: rows", b, 2, 1, 1, 0);
        Check.due("6: sum", Long.MAX_VALUE + 5, () -> b.state(2));
        Check.due("6: rows counted", 2, () -> b.task(2, 0));
        for (int c = 1; c <= 2; c++) {
            int channel = c;
            Check.due("6: both rows go on", 2, () -> b.waiting(channel));
            Check.due("6: three times and the task", 3 * Long.MAX_VALUE + 2, () -> b.value(channel, 0));
            Check.due("6: in order", 17, () -> b.value(channel, 1));
        }
        turns("6: taken in order", b, 1, 1);
        Check.due("6: the first row", 3 * Long.MAX_VALUE + 2, () -> b.state(1));
        Check.due("6: the other channel is its own", 2, () -> b.waiting(2));
        BarrierMarks none = new BarrierMarks(1);
        turns("6: a task without a channel never ends", none, 0, 0, 0);
        Check.due("6: not ended", 0, () -> none.task(0, 1));
    }

    private static void turnRound() {
        BarrierMarks b = new BarrierMarks(1);
        b.channel(NONE, 0);
        b.channel(NONE, 0);
        b.channel(NONE, 0);
        for (int c = 0; c < 3; c++) {
            b.send(c, 1L << (8 * c));
            b.send(c, 1L << (8 * c));
        }
        long[] sums = {0x1, 0x101, 0x10101, 0x10102, 0x10202, 0x20202};
        for (int i = 0; i < sums.length; i++) {
            turns("6: round", b, 0, 1);
            long want = sums[i];
            Check.due("6: round " + i, want, () -> b.state(0));
        }
        b.send(2, 0x10000);
        b.send(0, 1);
        turns("6: from behind the latest", b, 0, 1);
        Check.due("6: the least is behind the last", 0x20203, () -> b.state(0));
        b.send(1, 0x100);
        b.mark();
        turns("6: from the second on", b, 0, 1);
        Check.due("6: the second", 0x20303, () -> b.state(0));
        turns("6: then the third", b, 0, 1, 2, 2, 2, 4);
        BarrierMarks moved = new BarrierMarks(1);
        moved.channel(NONE, 0);
        moved.channel(NONE, 0);
        moved.mark();
        moved.send(0, 1);
        moved.send(1, 2);
        turns("6: a barrier moves it on too", moved, 0, 2);
        Check.due("6: the first is held", 0, () -> moved.held(0));
        moved.giveUp(0);
        turns("6: then it looks at the second", moved, 0, 1);
        Check.due("6: the second's row", 2, () -> moved.state(0));
        BarrierMarks ends = new BarrierMarks(1);
        ends.channel(NONE, 0);
        ends.channel(NONE, 0);
        ends.channel(NONE, 0);
        ends.send(2, 4);
        ends.finish(1);
        ends.send(0, 1);
        ends.send(0, 1);
        turns("6: an end moves it on too", ends, 0, 1, 3, 1);
        Check.due("6: the third ahead of the first", 5, () -> ends.state(0));
    }

    private static void turnCredits() {
        BarrierMarks b = new BarrierMarks(3);
        b.channel(NONE, 0);
        b.channel(NONE, 0);
        b.channel(0, 1);
        b.channel(0, 2);
        for (int i = 0; i < 12; i++) {
            b.send(0, 1);
        }
        turns("6: eight credits", b, 0, 1, 1, 1, 1, 1, 1, 1, 1, 0);
        Check.due("6: eight wait", 8, () -> b.waiting(2));
        Check.due("6: eight counted", 8, () -> b.state(0));
        Check.due("6: the ninth is still there", 4, () -> b.waiting(0));
        turns("6: one is taken", b, 1, 1);
        turns("6: the other channel has none", b, 0, 0);
        turns("6: the other is taken", b, 2, 1);
        turns("6: one goes on", b, 0, 1, 0);
        b.mark();
        b.send(1, 9);
        turns("6: looks no further than a row without credit", b, 0, 2, 0);
        Check.due("6: the barrier of the second came first", 0, () -> b.held(1));
        turns("6: room", b, 1, 1, 1, 1, 1, 1, 1, 1, 1, 0);
        turns("6: room", b, 2, 1, 1, 1, 1, 1, 1, 1, 1, 0);
        turns("6: all rows, then the barrier", b, 0, 1, 1, 1, 2, 4, 1);
    }

    private static void turnBarriers() {
        BarrierMarks b = Webs.join();
        b.send(0, 1);
        b.send(1, 10);
        b.mark();
        b.send(0, 2);
        b.send(1, 20);
        turns("6: task 0", b, 0, 1, 2, 4, 1);
        Check.due("6: row, barrier, row", 3, () -> b.waiting(2));
        Check.due("6: the barrier is second", 1, () -> b.kind(2, 1));
        turns("6: task 2 takes a row and the barrier, then holds back", b, 2, 1, 2, 0, 0);
        Check.due("6: held", 0, () -> b.held(2));
        Check.due("6: the other is not", NONE, () -> b.held(3));
        Check.due("6: what is behind waits", 1, () -> b.waiting(2));
        turns("6: task 1", b, 1, 1, 2, 4, 1);
        turns("6: task 2 goes on", b, 2, 1, 2, 4, 1, 1, 0);
        Check.due("6: none is held any more", NONE, () -> b.held(2));
        Check.due("6: kept what is ahead", 3 * 1 + 0 + 3 * 10 + 1, () -> b.kept(0, 2));
        Check.due("6: the state has all", 3 + 6 + 31 + 61, () -> b.state(2));
        Check.due("6: three acks", 3, () -> b.told(2));
        BarrierMarks half = Webs.join();
        half.finish(0);
        half.mark();
        turns("6: barrier ahead of the end", half, 0, 2, 4, 3, 6);
        turns("6: one held, the other not", half, 2, 2, 0);
        turns("6: the other", half, 1, 2, 4);
        turns("6: both held", half, 2, 2, 4, 3, 0);
        half.mark();
        turns("6: one ended, the other brings a barrier", half, 1, 2, 4);
        turns("6: held, and all others ended", half, 2, 2, 4, 0);
    }

    private static void turnKeepNeedsCredit() {
        BarrierMarks b = Webs.chain(2);
        for (int i = 0; i < 8; i++) {
            b.send(0, i);
        }
        b.mark();
        turns("6: eight rows, and the barrier is taken", b, 0, 1, 1, 1, 1, 1, 1, 1, 1, 2, 0);
        Check.due("6: it has not kept", STATE, () -> b.kept(0, 0));
        Check.due("6: still held", 0, () -> b.held(0));
        turns("6: room", b, 1, 1);
        turns("6: it keeps", b, 0, 4);
        Check.due("6: barriers need credits", 8, () -> b.waiting(1));
        b.send(0, 9);
        b.finish(0);
        turns("6: no credit for a row", b, 0, 0);
        turns("6: room", b, 1, 1);
        turns("6: an end needs none", b, 0, 1, 3, 6);
        Check.due("6: nine things", 9, () -> b.waiting(1));
        Check.due("6: the ninth is the end", 2, () -> b.kind(1, 8));
        b.giveUp(0);
        Check.due("6: a barrier that goes gives its credit back", 8, () -> b.waiting(1));
        turns("6: all come", b, 1, 1, 1, 1, 1, 1, 1, 1, 3, 6, 0);
    }

    private static void turnEnds() {
        BarrierMarks b = Webs.join();
        b.send(0, 4);
        b.mark();
        b.mark();
        b.finish(0);
        b.finish(1);
        turns("6: end behind barriers", b, 0, 1, 2, 4, 2, 4, 3, 6, 0);
        Check.due("6: row, barriers, end", 4, () -> b.waiting(2));
        Check.due("6: an end has no value", 0, () -> b.value(2, 3));
        Check.due("6: ended", 1, () -> b.task(0, 1));
        turns("6: task 1", b, 1, 2, 4, 2, 4, 3, 6);
        turns("6: task 2", b, 2, 1, 2, 2, 4, 2, 2, 4, 3, 3, 6, 0);
        turns("6: six acks", b, NONE, 7, 7, 7, 7, 8, 8, 0);
        BarrierMarks late = Webs.chain(2);
        late.send(0, 6);
        late.finish(0);
        turns("6: not ended yet", late, 0, 1, 3);
        late.mark();
        late.mark();
        Check.due("6: no ack at once", 0, () -> late.told(2));
        turns("6: ends", late, 0, 6);
        Check.due("6: keeps for both, in that turn", 2, () -> late.told(2));
        Check.due("6: for the first", 6, () -> late.kept(0, 0));
        Check.due("6: for the second", 6, () -> late.kept(1, 0));
        late.mark();
        Check.due("6: and for later ones at once", 3, () -> late.told(2));
        turns("6: no barrier goes on", late, 1, 1, 3, 6);
        Check.due("6: six acks", 6, () -> late.told(2));
        turns("6: the least mark first", late, NONE, 7, 7, 7, 8, 8, 8, 0);
        Check.due("6: exact", true, () -> late.exact(1));
        BarrierMarks stopped = Webs.chain(1);
        stopped.finish(0);
        turns("6: end taken", stopped, 0, 3);
        stopped.mark();
        stopped.mark();
        stopped.giveUp(0);
        turns("6: ends", stopped, 0, 6);
        Check.due("6: not for one that was given up", STATE, () -> stopped.kept(0, 0));
        Check.due("6: one ack", 1, () -> stopped.told(2));
    }

    private static void turnKeeper() {
        BarrierMarks b = Webs.chain(2);
        b.mark();
        keeps("6", b, 0);
        turns("6: one of two", b, NONE, 7, 0);
        b.again(0, 0);
        turns("6: one that was taken already", b, NONE, 7, 0);
        Check.due("6: counts once", 1, () -> b.acknowledged(0));
        keeps("6", b, 1);
        b.again(0, 1);
        turns("6: complete by the first", b, NONE, 8, 7, 0);
        Check.due("6: complete", 1, () -> b.condition(0));
        b.mark();
        keeps("6", b, 0);
        b.giveUp(1);
        b.mark();
        turns("6: of a mark that was given up", b, NONE, 7, 0);
        Check.due("6: is nothing", 0, () -> b.acknowledged(1));
        Check.due("6: nor for another", 0, () -> b.acknowledged(2));
    }

    private static void marksAtOnce() {
        BarrierMarks b = Webs.chain(2);
        b.send(0, 1);
        b.mark();
        b.send(0, 2);
        b.mark();
        turns("6: two marks", b, 0, 1, 2, 4, 1, 2, 4);
        turns("6: two marks", b, 1, 1, 2, 4, 1, 2, 4);
        turns("6: the acks by turns", b, NONE, 7, 7, 8);
        Check.due("6: the first is complete", 1, () -> b.condition(0));
        Check.due("6: the second is not", 0, () -> b.condition(1));
        turns("6: the last ack", b, NONE, 8, 0);
        Check.due("6: the first stays complete", 1, () -> b.condition(0));
        Check.due("6: none is begun", 0, () -> b.told(3));
        Check.due("6: exact", true, () -> b.exact(0));
        Check.due("6: exact", true, () -> b.exact(1));
    }

    private static void play() {
        BarrierMarks b = Webs.chain(2);
        Check.due("7: no turns", ARGUMENT, () -> b.play(1, 0));
        Check.due("7: fewer", ARGUMENT, () -> b.play(1, -5));
        Check.due("7: too many", ARGUMENT, () -> b.play(1, 2001));
        Check.due("7: the most, with nothing to take", 0, () -> b.play(1, 2000));
        long[] seeds = {0, 1, -1, 42, Long.MIN_VALUE, Long.MAX_VALUE, 987654321987654321L};
        for (long seed : seeds) {
            for (int tasks = 1; tasks <= 8; tasks++) {
                playLikeTurns(seed, tasks);
            }
        }
    }

    private static void playLikeTurns(long seed, int tasks) {
        BarrierMarks played = Webs.chain(tasks);
        BarrierMarks stepped = Webs.chain(tasks);
        for (int i = 0; i < 5; i++) {
            played.send(0, i * seed);
            stepped.send(0, i * seed);
        }
        played.mark();
        stepped.mark();
        int rows = 0;
        long x = seed;
        for (int i = 0; i < 60; i++) {
            x = 6364136223846793005L * x + 1442695040888963407L;
            int who = (int) ((x >>> 33) % (tasks + 1));
            rows += stepped.turn(who == tasks ? NONE : who) == 1 ? 1 : 0;
        }
        int want = rows;
        Check.due("7: rows with seed " + seed + ", " + tasks + " tasks", want, () -> played.play(seed, 60));
        for (int t = 0; t < tasks; t++) {
            int task = t;
            Check.due("7: state of " + t, stepped.state(t), () -> played.state(task));
            Check.due("7: rows of " + t, stepped.task(t, 0), () -> played.task(task, 0));
        }
        Check.due("7: acks", stepped.told(2), () -> played.told(2));
        Check.due("7: acknowledged", stepped.acknowledged(0), () -> played.acknowledged(0));
    }

    private static void giveUp() {
        BarrierMarks b = Webs.join();
        Check.due("8: no mark", BOUNDS, () -> b.giveUp(0));
        b.mark();
        b.mark();
        Check.due("8: below", BOUNDS, () -> b.giveUp(-1));
        Check.due("8: above", BOUNDS, () -> b.giveUp(2));
        turns("8: task 0", b, 0, 2, 4, 2, 4);
        turns("8: task 2", b, 2, 2, 0);
        turns("8: task 1", b, 1, 2);
        turns("8: an ack of the first", b, NONE, 7);
        b.again(0, 0);
        turns("8: of the second, and the first again", b, NONE, 7, 7);
        Check.due("8: held", 0, () -> b.held(2));
        Check.due("8: a barrier waits", 1, () -> b.waiting(2));
        Check.due("8: one of its acks was taken", 1, () -> b.giveUp(0));
        Check.due("8: given up", 2, () -> b.condition(0));
        Check.due("8: once", STATE, () -> b.giveUp(0));
        Check.due("8: none is held for it", NONE, () -> b.held(2));
        Check.due("8: nor elsewhere", NONE, () -> b.held(1));
        Check.due("8: the other's barrier stays", 1, () -> b.value(2, 0));
        turns("8: the second goes on", b, 2, 2);
        turns("8: the second goes on", b, 1, 2, 4);
        turns("8: the second goes on", b, 2, 2, 4);
        turns("8: and is complete", b, NONE, 7, 8);
        Check.due("8: complete ones stay", STATE, () -> b.giveUp(1));
        b.mark();
        turns("8: a barrier in a channel", b, 0, 2, 4);
        Check.due("8: none was taken", 0, () -> b.giveUp(2));
        Check.due("8: it goes from the channel", 0, () -> b.waiting(2));
        turns("8: and from the sources", b, 1, 0);
        Check.due("8: its ack waits", 1, () -> b.told(2));
    }

    private static void fails() {
        BarrierMarks b = Webs.join();
        Check.due("9: no mark", BOUNDS, () -> { b.fails(0, 0); return 0; });
        b.mark();
        b.mark();
        Check.due("9: no task", BOUNDS, () -> { b.fails(3, 0); return 0; });
        Check.due("9: the keeper", BOUNDS, () -> { b.fails(NONE, 0); return 0; });
        Check.due("9: below", BOUNDS, () -> { b.fails(0, -1); return 0; });
        Check.due("9: told", 0, () -> { b.fails(2, 1); return 0; });
        Check.due("9: twice", STATE, () -> { b.fails(2, 1); return 0; });
        Check.due("9: another task", 0, () -> { b.fails(1, 1); return 0; });
        turns("9: task 0", b, 0, 2, 4);
        Check.due("9: it has kept", STATE, () -> { b.fails(0, 0); return 0; });
        turns("9: task 1 fails for the second mark only", b, 1, 2, 4, 2, 5, 0);
        Check.due("9: given up", 2, () -> b.condition(1));
        Check.due("9: it did not keep", STATE, () -> b.kept(1, 1));
        Check.due("9: not begun", STATE, () -> { b.fails(0, 1); return 0; });
        Check.due("9: no ack", 2, () -> b.told(2));
        Check.due("9: no barrier", 1, () -> b.waiting(3));
        Check.due("9: none is held", NONE, () -> b.held(1));
        turns("9: the first goes on", b, 2, 2, 2, 4);
        turns("9: complete", b, NONE, 7, 7, 8);
        BarrierMarks ends = Webs.chain(1);
        ends.finish(0);
        turns("9: end taken", ends, 0, 3);
        ends.mark();
        Check.due("9: told", 0, () -> { ends.fails(0, 0); return 0; });
        turns("9: not when it ends", ends, 0, 6);
        Check.due("9: it kept", 0, () -> ends.kept(0, 0));
        ends.mark();
        Check.due("9: nor when it has ended", STATE, () -> { ends.fails(0, 1); return 0; });
        BarrierMarks full = Webs.chain(2);
        for (int i = 0; i < 8; i++) {
            full.send(0, i);
        }
        full.mark();
        full.fails(0, 0);
        turns("9: without a credit nothing is done", full, 0, 1, 1, 1, 1, 1, 1, 1, 1, 2, 0);
        turns("9: room", full, 1, 1);
        turns("9: then it fails", full, 0, 5);
    }

    private static void again() {
        BarrierMarks b = Webs.chain(2);
        Check.due("10: no mark", BOUNDS, () -> b.again(0, 0));
        b.mark();
        Check.due("10: no task", BOUNDS, () -> b.again(0, 2));
        Check.due("10: the keeper", BOUNDS, () -> b.again(0, NONE));
        Check.due("10: below", BOUNDS, () -> b.again(-1, 0));
        Check.due("10: not kept", STATE, () -> b.again(0, 0));
        keeps("10", b, 0);
        for (int i = 2; i <= 200; i++) {
            int wait = i;
            Check.due("10: wait", wait, () -> b.again(0, 0));
        }
        Check.due("10: 200 wait", STATE, () -> b.again(0, 0));
        keeps("10", b, 1);
        Check.due("10: a first ack needs no room", 201, () -> b.told(2));
        turns("10: one is taken", b, NONE, 7);
        Check.due("10: 200 wait", STATE, () -> b.again(0, 0));
        turns("10: one is taken", b, NONE, 7);
        Check.due("10: room for one", 200, () -> b.again(0, 1));
        b.giveUp(0);
        turns("10: one is taken", b, NONE, 7);
        Check.due("10: not begun", STATE, () -> b.again(0, 0));
    }

    private static void restore() {
        BarrierMarks b = Webs.join();
        Check.due("11: no mark", BOUNDS, () -> b.restore(0));
        b.send(0, 1);
        b.send(1, 10);
        b.send(1, 11);
        b.mark();
        Check.due("11: not complete", STATE, () -> b.restore(0));
        turns("11", b, 0, 1, 2, 4);
        turns("11", b, 1, 1, 1, 2, 4);
        turns("11", b, 2, 1, 1, 2, 1, 2, 4);
        turns("11", b, NONE, 7, 7, 8);
        b.send(0, 2);
        b.send(0, 3);
        b.send(0, 4);
        b.send(1, 12);
        b.mark();
        turns("11", b, 0, 1, 1, 1, 2, 4);
        turns("11", b, 1, 1, 2, 4);
        turns("11: it leaves a row and holds the other", b, 2, 1, 1, 1, 2);
        Check.due("11: held", 1, () -> b.held(3));
        Check.due("11: a row waits", 0, () -> b.kind(2, 0));
        b.mark();
        Check.due("11: below", BOUNDS, () -> b.restore(-1));
        Check.due("11: above", BOUNDS, () -> b.restore(3));
        Check.due("11: begun", STATE, () -> b.restore(1));
        Check.due("11: rows that come anew", 4, () -> b.restore(0));
        Check.due("11: state 0", 1, () -> b.state(0));
        Check.due("11: state 1", 21, () -> b.state(1));
        Check.due("11: state 2", 3 + 31 + 34, () -> b.state(2));
        Check.due("11: rows 2", 3, () -> b.task(2, 0));
        Check.due("11: empty", 0, () -> b.waiting(2));
        Check.due("11: empty", 0, () -> b.waiting(3));
        Check.due("11: source 0", 3, () -> b.waiting(0));
        Check.due("11: source 1", 1, () -> b.waiting(1));
        for (int c = 0; c < 4; c++) {
            int channel = c;
            Check.due("11: not held", NONE, () -> b.held(channel));
        }
        Check.due("11: given up", 2, () -> b.condition(1));
        Check.due("11: given up", 2, () -> b.condition(2));
        Check.due("11: no ack waits", 0, () -> b.told(2));
        Check.due("11: none is begun", 0, () -> b.told(3));
        Check.due("11: given up", STATE, () -> b.restore(1));
        turns("11: the rows come anew, no barrier with them", b, 0, 1, 1, 1, 0);
        turns("11: the rows come anew, no barrier with them", b, 1, 1, 0);
        turns("11: and on", b, 2, 1, 1, 1, 1, 0);
        Check.due("11: as before", 3 + 6 + 9 + 12 + 31 + 34 + 37, () -> b.state(2));
        b.finish(0);
        Check.due("11: once more", 4, () -> b.restore(0));
        turns("11: with the end", b, 0, 1, 1, 1, 3, 6);
        restoreLooksFromLeast();
    }

    private static void restoreLooksFromLeast() {
        BarrierMarks b = new BarrierMarks(1);
        b.channel(NONE, 0);
        b.channel(NONE, 0);
        b.mark();
        turns("11", b, 0, 2, 2, 4);
        turns("11", b, NONE, 8);
        b.send(0, 1);
        b.send(0, 1);
        b.send(1, 100);
        turns("11: the first", b, 0, 1);
        Check.due("11: rows that wait come too", 3, () -> b.restore(0));
        turns("11: from the least", b, 0, 1);
        Check.due("11: the first again", 1, () -> b.state(0));
    }

    private static void restoreEnded() {
        BarrierMarks b = Webs.join();
        b.send(0, 5);
        b.finish(0);
        turns("11: task 0 ends", b, 0, 1, 3, 6);
        turns("11: task 2", b, 2, 1, 3);
        b.mark();
        turns("11", b, 1, 2, 4);
        turns("11", b, 2, 2, 4);
        turns("11", b, NONE, 7, 7, 8);
        b.send(1, 1);
        b.finish(1);
        turns("11: task 1 ends", b, 1, 1, 3, 6);
        turns("11: task 2 ends", b, 2, 1, 3, 6);
        Check.due("11: rows", 1, () -> b.restore(0));
        Check.due("11: it had ended", 1, () -> b.task(0, 1));
        Check.due("11: it had not", 0, () -> b.task(1, 1));
        Check.due("11: it had not", 0, () -> b.task(2, 1));
        turns("11: ended", b, 0, 0);
        turns("11: task 1 again", b, 1, 1, 3, 6, 0);
        turns("11: the channel from what has ended is ended", b, 2, 1, 3, 6, 0);
        Check.due("11: state", 15 + 4, () -> b.state(2));
        BarrierMarks late = new BarrierMarks(1);
        late.channel(NONE, 0);
        late.channel(NONE, 0);
        late.finish(0);
        turns("11: the end of the first", late, 0, 3);
        late.mark();
        turns("11: held and ended", late, 0, 2, 4);
        turns("11", late, NONE, 8);
        Check.due("11: nothing comes", 0, () -> late.restore(0));
        turns("11: no other is ended, so the end comes anew", late, 0, 3, 0);
        late.finish(1);
        turns("11: and the other", late, 0, 3, 6);
        BarrierMarks ends = Webs.chain(1);
        ends.finish(0);
        turns("11: end taken", ends, 0, 3);
        ends.mark();
        turns("11: keeps when it ends", ends, 0, 6);
        turns("11", ends, NONE, 8);
        Check.due("11: back", 0, () -> ends.restore(0));
        Check.due("11: it had ended when it kept", 1, () -> ends.task(0, 1));
    }

    private static void stateAndTask() {
        BarrierMarks b = Webs.chain(2);
        Check.due("12: below", BOUNDS, () -> b.state(-1));
        Check.due("12: above", BOUNDS, () -> b.state(2));
        Check.due("13: below", BOUNDS, () -> b.task(-1, 0));
        Check.due("13: above", BOUNDS, () -> b.task(2, 1));
        Check.due("13: the task ahead of what", BOUNDS, () -> b.task(2, 2));
        Check.due("13: what above", ARGUMENT, () -> b.task(0, 2));
        Check.due("13: what below", ARGUMENT, () -> b.task(0, -1));
        b.send(0, Long.MIN_VALUE);
        b.send(0, -1);
        b.finish(0);
        turns("12", b, 0, 1, 1);
        Check.due("12: modulo 2^64", Long.MAX_VALUE, () -> b.state(0));
        Check.due("13: rows", 2, () -> b.task(0, 0));
        Check.due("13: not ended", 0, () -> b.task(0, 1));
        turns("13: end taken", b, 0, 3);
        Check.due("13: not ended yet", 0, () -> b.task(0, 1));
        turns("13: ends", b, 0, 6);
        Check.due("13: ended", 1, () -> b.task(0, 1));
        Check.due("13: the next has not", 0, () -> b.task(1, 1));
        Check.due("12: the next took none", 0, () -> b.state(1));
        Check.due("12: still there", Long.MAX_VALUE, () -> b.state(0));
    }

    private static void kept() {
        BarrierMarks b = Webs.chain(2);
        Check.due("14: no mark", BOUNDS, () -> b.kept(0, 0));
        Check.due("15: no mark", BOUNDS, () -> b.keptRows(0, 0));
        b.send(0, 5);
        b.send(0, 6);
        b.mark();
        b.send(0, 7);
        Check.due("14: no task", BOUNDS, () -> b.kept(0, 2));
        Check.due("15: no task", BOUNDS, () -> b.keptRows(0, 2));
        Check.due("14: below", BOUNDS, () -> b.kept(-1, 0));
        Check.due("15: below", BOUNDS, () -> b.keptRows(0, -1));
        Check.due("14: not yet", STATE, () -> b.kept(0, 0));
        Check.due("15: not yet", STATE, () -> b.keptRows(0, 0));
        turns("14", b, 0, 1, 1, 2, 4, 1);
        Check.due("14: sum", 11, () -> b.kept(0, 0));
        Check.due("15: rows", 2, () -> b.keptRows(0, 0));
        Check.due("14: the next has not", STATE, () -> b.kept(0, 1));
        Check.due("15: the next has not", STATE, () -> b.keptRows(0, 1));
        b.giveUp(0);
        Check.due("14: given up, but kept", 11, () -> b.kept(0, 0));
        Check.due("15: given up, but kept", 2, () -> b.keptRows(0, 0));
        Check.due("14: given up, and not kept", STATE, () -> b.kept(0, 1));
    }

    private static void position() {
        BarrierMarks b = Webs.join();
        Check.due("16: no mark", BOUNDS, () -> b.position(0, 0));
        b.send(0, 5);
        b.mark();
        b.send(0, 6);
        b.send(1, 6);
        b.finish(1);
        b.mark();
        Check.due("16: one", 1, () -> b.position(0, 0));
        Check.due("16: none", 0, () -> b.position(0, 1));
        Check.due("16: two", 2, () -> b.position(1, 0));
        Check.due("16: with an end", 1, () -> b.position(1, 1));
        Check.due("16: no source", BOUNDS, () -> b.position(0, 2));
        Check.due("16: no channel", BOUNDS, () -> b.position(0, 4));
        Check.due("16: outside", BOUNDS, () -> b.position(0, NONE));
        Check.due("16: mark above", BOUNDS, () -> b.position(2, 0));
        Check.due("16: mark below", BOUNDS, () -> b.position(-1, 0));
        b.giveUp(0);
        Check.due("16: of one given up", 1, () -> b.position(0, 0));
    }

    private static void condition() {
        BarrierMarks b = new BarrierMarks(2);
        Check.due("17: no mark", BOUNDS, () -> b.condition(0));
        Check.due("18: no mark", BOUNDS, () -> b.acknowledged(0));
        b.mark();
        b.mark();
        b.giveUp(1);
        Check.due("17: begun", 0, () -> b.condition(0));
        Check.due("17: given up", 2, () -> b.condition(1));
        Check.due("17: below", BOUNDS, () -> b.condition(-1));
        Check.due("17: above", BOUNDS, () -> b.condition(2));
        Check.due("18: below", BOUNDS, () -> b.acknowledged(-1));
        Check.due("18: above", BOUNDS, () -> b.acknowledged(2));
        Check.due("18: none", 0, () -> b.acknowledged(0));
        turns("18", b, NONE, 7);
        Check.due("18: one", 1, () -> b.acknowledged(0));
        turns("18", b, NONE, 8);
        Check.due("18: two", 2, () -> b.acknowledged(0));
        Check.due("17: complete", 1, () -> b.condition(0));
        turns("18: of the one given up", b, NONE, 7, 7, 0);
        Check.due("18: not counted any more", 0, () -> b.acknowledged(1));
    }

    private static void exact() {
        BarrierMarks b = new BarrierMarks(4);
        b.channel(NONE, 3);
        b.channel(3, 0);
        b.channel(3, 0);
        b.channel(0, 2);
        b.channel(3, 2);
        b.channel(NONE, 2);
        Check.due("19: no mark", BOUNDS, () -> b.exact(0));
        for (int i = 0; i < 5; i++) {
            b.send(0, Long.MAX_VALUE - i);
            b.send(5, i);
        }
        b.mark();
        b.send(0, 100);
        Check.due("19: begun", STATE, () -> b.exact(0));
        Check.due("19: below", BOUNDS, () -> b.exact(-1));
        Check.due("19: above", BOUNDS, () -> b.exact(1));
        b.play(5, 400);
        Check.due("19: complete", 1, () -> b.condition(0));
        Check.due("19: exact", true, () -> b.exact(0));
        Check.due("19: ten rows on two channels", 10, () -> b.keptRows(0, 0));
        b.mark();
        b.giveUp(1);
        Check.due("19: given up", STATE, () -> b.exact(1));
        b.restore(0);
        b.mark();
        b.play(6, 400);
        Check.due("19: exact after going back", true, () -> b.exact(2));
        Check.due("19: and the old one", true, () -> b.exact(0));
    }

    private static void held() {
        BarrierMarks b = Webs.chain(1);
        Check.due("20: none", NONE, () -> b.held(0));
        Check.due("20: below", BOUNDS, () -> b.held(-1));
        Check.due("20: above", BOUNDS, () -> b.held(1));
        b.mark();
        b.mark();
        Check.due("20: not yet", NONE, () -> b.held(0));
        turns("20", b, 0, 2);
        Check.due("20: the first", 0, () -> b.held(0));
        turns("20", b, 0, 4);
        Check.due("20: let go", NONE, () -> b.held(0));
        turns("20", b, 0, 2);
        Check.due("20: the second", 1, () -> b.held(0));
        b.mark();
        b.giveUp(2);
        Check.due("20: another is given up", 1, () -> b.held(0));
        b.giveUp(1);
        Check.due("20: given up", NONE, () -> b.held(0));
    }

    private static void waitingKindValue() {
        BarrierMarks b = Webs.chain(2);
        Check.due("21: below", BOUNDS, () -> b.waiting(-1));
        Check.due("21: above", BOUNDS, () -> b.waiting(2));
        Check.due("22: empty", BOUNDS, () -> b.kind(1, 0));
        Check.due("23: empty", BOUNDS, () -> b.value(1, 0));
        b.send(0, -4);
        b.mark();
        b.giveUp(0);
        b.mark();
        b.finish(0);
        Check.due("21: rows of a source alone", 1, () -> b.waiting(0));
        Check.due("22: a source", BOUNDS, () -> b.kind(0, 0));
        Check.due("23: a source", BOUNDS, () -> b.value(0, 0));
        turns("22", b, 0, 1);
        Check.due("21: none", 0, () -> b.waiting(0));
        turns("22", b, 0, 2, 4, 3, 6);
        Check.due("21: three", 3, () -> b.waiting(1));
        long[][] things = {{0, -12}, {1, 1}, {2, 0}};
        for (int k = 0; k < 3; k++) {
            int at = k;
            Check.due("22: thing " + k, things[k][0], () -> b.kind(1, at));
            Check.due("23: thing " + k, things[k][1], () -> b.value(1, at));
        }
        int[] none = {-1, 3, Integer.MIN_VALUE, Integer.MAX_VALUE};
        for (int k : none) {
            Check.due("22: no thing " + k, BOUNDS, () -> b.kind(1, k));
            Check.due("23: no thing " + k, BOUNDS, () -> b.value(1, k));
        }
        Check.due("22: no channel", BOUNDS, () -> b.kind(2, 0));
        Check.due("22: outside", BOUNDS, () -> b.kind(NONE, 0));
        Check.due("23: no channel", BOUNDS, () -> b.value(2, 0));
        Check.due("23: outside", BOUNDS, () -> b.value(NONE, 0));
        turns("22", b, 1, 1);
        Check.due("22: they move up", 1, () -> b.kind(1, 0));
        Check.due("23: they move up", 1, () -> b.value(1, 0));
        Check.due("21: two", 2, () -> b.waiting(1));
    }

    private static void told() {
        BarrierMarks b = Webs.join();
        Check.due("24: channels", 4, () -> b.told(0));
        b.mark();
        b.mark();
        b.mark();
        b.giveUp(1);
        keeps("24", b, 0);
        Check.due("24: marks", 3, () -> b.told(1));
        Check.due("24: acks", 1, () -> b.told(2));
        Check.due("24: begun", 2, () -> b.told(3));
        int[] others = {-1, 4, Integer.MIN_VALUE, Integer.MAX_VALUE};
        for (int what : others) {
            Check.due("24: " + what, ARGUMENT, () -> b.told(what));
        }
    }
}
