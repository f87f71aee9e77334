/**
 * Marks of what a web of tasks has done, taken while it goes on.
 *
 * <p>Rows go from outside through tasks, marks send barriers along with them; a mark that is
 * complete is what the rows ahead of its barriers come to, and all can go back to it.
 */
public final class BarrierMarks {
    /** Outside, the keeper, none. */
    public static final int NONE = -1;

    private static final int MOST_TASKS = 8;
    private static final int MOST_CHANNELS = 16;
    private static final int MOST_ROWS = 200;
    private static final int MOST_MARKS = 40;
    private static final int MOST_BEGUN = 3;
    private static final int MOST_TURNS = 2000;
    private static final int CREDITS = 8;
    private static final int MOST_WAIT_FOR_AGAIN = 200;
    // Each task keeps at most once for a mark, and no ack is sent again while 200 wait.
    private static final int ACK_ROOM = MOST_WAIT_FOR_AGAIN + MOST_MARKS * MOST_TASKS;

    private static final int ROW = 0;
    private static final int BARRIER = 1;
    private static final int END = 2;

    private static final int BEGUN = 0;
    private static final int COMPLETE = 1;
    private static final int GIVEN_UP = 2;

    private static final int DID_NOTHING = 0;
    private static final int TOOK_ROW = 1;
    private static final int TOOK_BARRIER = 2;
    private static final int TOOK_END = 3;
    private static final int KEPT = 4;
    private static final int FAILED = 5;
    private static final int ENDED = 6;
    private static final int TOOK_ACK = 7;
    private static final int COMPLETED = 8;

    private static final long PLAY_FACTOR = 6364136223846793005L;
    private static final long PLAY_STEP = 1442695040888963407L;
    private static final int PLAY_SHIFT = 33;

    private final Task[] tasks;
    private final Channel[] channels = new Channel[MOST_CHANNELS];
    private final Mark[] marks = new Mark[MOST_MARKS];
    private final AckRow acks = new AckRow();
    private final long[] carriedSums;
    private final int[] carriedRows;
    private int channelCount;
    private int markCount;
    private int begunCount;
    private boolean started;

    public BarrierMarks(int tasks) {
        int count = Math.max(1, Math.min(tasks, MOST_TASKS));
        this.tasks = new Task[count];
        for (int t = 0; t < count; t++) {
            this.tasks[t] = new Task(t);
        }
        carriedSums = new long[count];
        carriedRows = new int[count];
    }

    public int channel(int from, int to)
            throws IndexOutOfBoundsException, IllegalStateException, IllegalArgumentException {
        Task target = taskAt(to);
        Task origin = from == NONE ? null : taskAt(from);
        if (started || channelCount >= MOST_CHANNELS) {
            throw new IllegalStateException("no more channels can be made");
        }
        if (origin == null) {
            return addChannel(new Source(to), target);
        }
        if (origin.intoCount == 0 || leadsOnTo(to, from)) {
            throw new IllegalArgumentException("a ring, or a task without a channel into it");
        }
        Line line = new Line(from, to);
        origin.addOut(line);
        return addChannel(line, target);
    }

    public int send(int channel, long v) throws IndexOutOfBoundsException, IllegalStateException {
        Source source = sourceAt(channel);
        if (source.finished || source.logged >= MOST_ROWS) {
            throw new IllegalStateException("the log has its end, or is full");
        }
        started = true;
        source.addRow(v);
        return source.logged;
    }

    public int finish(int channel) throws IndexOutOfBoundsException, IllegalStateException {
        Source source = sourceAt(channel);
        if (source.finished) {
            throw new IllegalStateException("the log has its end");
        }
        started = true;
        source.finished = true;
        return source.logged;
    }

    public int mark() throws IllegalStateException {
        if (begunCount >= MOST_BEGUN || markCount >= MOST_MARKS) {
            throw new IllegalStateException("three marks are begun, or there are forty");
        }
        started = true;
        int number = markCount;
        Mark begun = new Mark(number, tasks.length);
        marks[number] = begun;
        markCount++;
        begunCount++;
        for (int c = 0; c < channelCount; c++) {
            channels[c].beginMark(number);
        }
        for (int t = 0; t < tasks.length; t++) {
            if (tasks[t].ended || tasks[t].intoCount == 0) {
                keepAndAck(begun, tasks[t]);
            }
        }
        return number;
    }

    public int turn(int task) throws IndexOutOfBoundsException {
        return task == NONE ? keeperTurn() : taskTurn(taskAt(task));
    }

    public int play(long seed, int turns) throws IllegalArgumentException {
        if (turns < 1 || turns > MOST_TURNS) {
            throw new IllegalArgumentException("turns are 1 to 2000");
        }
        long x = seed;
        int taken = 0;
        for (int i = 0; i < turns; i++) {
            x = PLAY_FACTOR * x + PLAY_STEP;
            int who = (int) ((x >>> PLAY_SHIFT) % (tasks.length + 1));
            int did = who < tasks.length ? taskTurn(tasks[who]) : keeperTurn();
            if (did == TOOK_ROW) {
                taken++;
            }
        }
        return taken;
    }

    public int giveUp(int mark) throws IndexOutOfBoundsException, IllegalStateException {
        Mark begun = begunMarkAt(mark);
        stopMark(begun, GIVEN_UP);
        return begun.ackedCount;
    }

    public void fails(int task, int mark) throws IndexOutOfBoundsException, IllegalStateException {
        taskAt(task);
        Mark begun = begunMarkAt(mark);
        if (begun.kept[task] || begun.failing[task]) {
            throw new IllegalStateException("the task has kept, or was told so already");
        }
        begun.failing[task] = true;
    }

    public int again(int mark, int task) throws IndexOutOfBoundsException, IllegalStateException {
        taskAt(task);
        Mark begun = begunMarkAt(mark);
        if (!begun.kept[task] || acks.size >= MOST_WAIT_FOR_AGAIN) {
            throw new IllegalStateException("the task has not kept, or 200 acks wait");
        }
        acks.add(mark, task);
        return acks.size;
    }

    public int restore(int mark) throws IndexOutOfBoundsException, IllegalStateException {
        Mark goal = completeMarkAt(mark);
        for (int m = 0; m < markCount; m++) {
            if (marks[m].condition == BEGUN) {
                stopMark(marks[m], GIVEN_UP);
            }
        }
        acks.clear();
        for (int t = 0; t < tasks.length; t++) {
            tasks[t].goBack(goal);
        }
        int rows = 0;
        for (int c = 0; c < channelCount; c++) {
            Channel channel = channels[c];
            channel.goBack(mark);
            channel.heldFor = NONE;
            channel.ended = hasEnded(channel.from) || hasEnded(channel.to);
            rows += channel.left();
        }
        return rows;
    }

    public long state(int task) throws IndexOutOfBoundsException {
        return taskAt(task).sum;
    }

    public int task(int task, int what) throws IndexOutOfBoundsException, IllegalArgumentException {
        Task asked = taskAt(task);
        if (what == 0) {
            return asked.rows;
        }
        if (what == 1) {
            return asked.ended ? 1 : 0;
        }
        throw new IllegalArgumentException("what is 0 or 1");
    }

    public long kept(int mark, int task) throws IndexOutOfBoundsException, IllegalStateException {
        return markKeptBy(mark, task).sums[task];
    }

    public int keptRows(int mark, int task) throws IndexOutOfBoundsException, IllegalStateException {
        return markKeptBy(mark, task).rows[task];
    }

    public int position(int mark, int channel) throws IndexOutOfBoundsException {
        markAt(mark);
        if (channelAt(channel) instanceof Source source) {
            return source.rowsAhead[mark];
        }
        throw new IndexOutOfBoundsException("the channel is no source");
    }

    public int condition(int mark) throws IndexOutOfBoundsException {
        return markAt(mark).condition;
    }

    public int acknowledged(int mark) throws IndexOutOfBoundsException {
        return markAt(mark).ackedCount;
    }

    public boolean exact(int mark) throws IndexOutOfBoundsException, IllegalStateException {
        Mark complete = completeMarkAt(mark);
        carryAlone(mark);
        for (int t = 0; t < tasks.length; t++) {
            if (complete.sums[t] != carriedSums[t] || complete.rows[t] != carriedRows[t]) {
                return false;
            }
        }
        return true;
    }

    public int held(int channel) throws IndexOutOfBoundsException {
        return channelAt(channel).heldFor;
    }

    public int waiting(int channel) throws IndexOutOfBoundsException {
        return channelAt(channel).left();
    }

    public int kind(int channel, int k) throws IndexOutOfBoundsException {
        return lineWith(channel, k).kinds[k];
    }

    public long value(int channel, int k) throws IndexOutOfBoundsException {
        return lineWith(channel, k).values[k];
    }

    public int told(int what) throws IllegalArgumentException {
        switch (what) {
            case 0:
                return channelCount;
            case 1:
                return markCount;
            case 2:
                return acks.size;
            case 3:
                return begunCount;
            default:
                throw new IllegalArgumentException("what is 0 to 3");
        }
    }

    private Task taskAt(int task) {
        if (task < 0 || task >= tasks.length) {
            throw new IndexOutOfBoundsException("no such task");
        }
        return tasks[task];
    }

    private Channel channelAt(int channel) {
        if (channel < 0 || channel >= channelCount) {
            throw new IndexOutOfBoundsException("no such channel");
        }
        return channels[channel];
    }

    private Source sourceAt(int channel) {
        if (channelAt(channel) instanceof Source source) {
            return source;
        }
        throw new IllegalStateException("the channel is no source");
    }

    private Line lineWith(int channel, int k) {
        if (channelAt(channel) instanceof Line line && k >= 0 && k < line.size) {
            return line;
        }
        throw new IndexOutOfBoundsException("a source, or no such thing");
    }

    private Mark markAt(int mark) {
        if (mark < 0 || mark >= markCount) {
            throw new IndexOutOfBoundsException("no such mark");
        }
        return marks[mark];
    }

    private Mark begunMarkAt(int mark) {
        Mark found = markAt(mark);
        if (found.condition != BEGUN) {
            throw new IllegalStateException("the mark is not begun");
        }
        return found;
    }

    private Mark completeMarkAt(int mark) {
        Mark found = markAt(mark);
        if (found.condition != COMPLETE) {
            throw new IllegalStateException("the mark is not complete");
        }
        return found;
    }

    private Mark markKeptBy(int mark, int task) {
        Mark found = markAt(mark);
        taskAt(task);
        if (!found.kept[task]) {
            throw new IllegalStateException("the task has not kept for the mark");
        }
        return found;
    }

    private int addChannel(Channel channel, Task target) {
        int number = channelCount;
        if (number < channels.length) {
            channels[number] = channel;
            channelCount++;
            target.addInto(channel);
        }
        return number;
    }

    private boolean leadsOnTo(int first, int last) {
        int reached = 1 << first;
        // One round goes at least one channel further, and no way is longer than all tasks.
        for (int round = 0; round < tasks.length; round++) {
            for (int c = 0; c < channelCount; c++) {
                Channel channel = channels[c];
                if (channel.from != NONE && (reached & 1 << channel.from) != 0) {
                    reached |= 1 << channel.to;
                }
            }
        }
        return (reached & 1 << last) != 0;
    }

    private boolean hasEnded(int task) {
        return task >= 0 && task < tasks.length && tasks[task].ended;
    }

    private int keeperTurn() {
        if (acks.size == 0) {
            return DID_NOTHING;
        }
        Mark mark = markAt(acks.firstMark());
        int task = acks.firstTask();
        acks.dropFirst();
        if (mark.condition != BEGUN || mark.acked[task]) {
            return TOOK_ACK;
        }
        mark.acked[task] = true;
        mark.ackedCount++;
        if (mark.ackedCount < tasks.length) {
            return TOOK_ACK;
        }
        completeMark(mark);
        return COMPLETED;
    }

    private void completeMark(Mark mark) {
        stopMark(mark, COMPLETE);
        for (int m = 0; m < mark.number; m++) {
            if (marks[m].condition == BEGUN) {
                stopMark(marks[m], GIVEN_UP);
            }
        }
    }

    private void stopMark(Mark mark, int condition) {
        mark.condition = condition;
        begunCount--;
        for (int c = 0; c < channelCount; c++) {
            Channel channel = channels[c];
            channel.dropBarrier(mark.number);
            if (channel.heldFor == mark.number) {
                channel.heldFor = NONE;
            }
        }
    }

    private void keepAndAck(Mark mark, Task task) {
        mark.keepStateOf(task);
        acks.add(mark.number, task.number);
    }

    private int taskTurn(Task task) {
        if (task.ended || task.intoCount == 0) {
            return DID_NOTHING;
        }
        if (task.hasOpen()) {
            return takeNext(task);
        }
        int heldFor = task.heldFor();
        return heldFor == NONE ? endTask(task) : keepFor(task, markAt(heldFor));
    }

    private int keepFor(Task task, Mark mark) {
        if (!task.hasCredits()) {
            return DID_NOTHING;
        }
        if (mark.failing[task.number]) {
            stopMark(mark, GIVEN_UP);
            return FAILED;
        }
        task.putOut(BARRIER, mark.number);
        task.letGo();
        keepAndAck(mark, task);
        return KEPT;
    }

    private int endTask(Task task) {
        task.ended = true;
        task.putOut(END, 0);
        for (int m = 0; m < markCount; m++) {
            if (marks[m].condition == BEGUN && !marks[m].kept[task.number]) {
                keepAndAck(marks[m], task);
            }
        }
        return ENDED;
    }

    private int takeNext(Task task) {
        int at = task.nextOffer();
        if (at == NONE) {
            return DID_NOTHING;
        }
        Channel channel = task.into[at];
        int kind = channel.nextKind();
        long value = channel.nextValue();
        if (kind == ROW && !task.hasCredits()) {
            return DID_NOTHING;
        }
        channel.passNext();
        task.lookFromBehind(at);
        if (kind == ROW) {
            task.sum += value;
            task.rows++;
            task.putOut(ROW, 3 * value + task.number);
            return TOOK_ROW;
        }
        if (kind == BARRIER) {
            channel.heldFor = (int) value;
            return TOOK_BARRIER;
        }
        channel.ended = true;
        return TOOK_END;
    }

    private void carryAlone(int mark) {
        for (int t = 0; t < tasks.length; t++) {
            carriedSums[t] = 0;
            carriedRows[t] = 0;
        }
        // Numbers need not rise along the channels; after as many rounds as tasks all has come through.
        for (int round = 0; round < tasks.length; round++) {
            for (int t = 0; t < tasks.length; t++) {
                carryInto(tasks[t], mark);
            }
        }
    }

    private void carryInto(Task task, int mark) {
        long sum = 0;
        int rows = 0;
        for (int i = 0; i < task.intoCount; i++) {
            Channel channel = task.into[i];
            int from = channel.from;
            if (channel instanceof Source source) {
                sum += source.sumsAhead[mark];
                rows += source.rowsAhead[mark];
            } else if (from >= 0 && from < tasks.length) {
                // The sum of 3 v + t over all rows v.
                sum += 3 * carriedSums[from] + (long) from * carriedRows[from];
                rows += carriedRows[from];
            }
        }
        carriedSums[task.number] = sum;
        carriedRows[task.number] = rows;
    }

    private static final class Task {
        final int number;
        final Channel[] into = new Channel[MOST_CHANNELS];
        final Line[] out = new Line[MOST_CHANNELS];
        int intoCount;
        int outCount;
        int lookFrom;
        long sum;
        int rows;
        boolean ended;

        Task(int number) {
            this.number = number;
        }

        void addInto(Channel channel) {
            if (intoCount < into.length) {
                into[intoCount] = channel;
                intoCount++;
            }
        }

        void addOut(Line line) {
            if (outCount < out.length) {
                out[outCount] = line;
                outCount++;
            }
        }

        /** Whether a channel into it is neither held nor ended: then it has not to keep or to end. */
        boolean hasOpen() {
            for (int i = 0; i < intoCount; i++) {
                if (into[i].heldFor == NONE && !into[i].ended) {
                    return true;
                }
            }
            return false;
        }

        /** The mark for which channels into it are held: never two, as barriers come in order. */
        int heldFor() {
            for (int i = 0; i < intoCount; i++) {
                if (into[i].heldFor != NONE) {
                    return into[i].heldFor;
                }
            }
            return NONE;
        }

        void letGo() {
            for (int i = 0; i < intoCount; i++) {
                into[i].heldFor = NONE;
            }
        }

        int nextOffer() {
            for (int i = 0; i < intoCount; i++) {
                int at = lookFrom + i;
                if (at >= intoCount) {
                    at -= intoCount;
                }
                if (into[at].heldFor == NONE && into[at].nextKind() != NONE) {
                    return at;
                }
            }
            return NONE;
        }

        void lookFromBehind(int at) {
            lookFrom = at + 1 < intoCount ? at + 1 : 0;
        }

        boolean hasCredits() {
            for (int i = 0; i < outCount; i++) {
                if (out[i].size >= CREDITS) {
                    return false;
                }
            }
            return true;
        }

        void putOut(int kind, long value) {
            for (int i = 0; i < outCount; i++) {
                out[i].put(kind, value);
            }
        }

        void goBack(Mark mark) {
            sum = mark.sums[number];
            rows = mark.rows[number];
            ended = mark.ended[number];
            lookFrom = 0;
        }
    }

    private abstract static class Channel {
        final int from;
        final int to;
        int heldFor = NONE;
        boolean ended;

        Channel(int from, int to) {
            this.from = from;
            this.to = to;
        }

        /** The kind of what comes next; NONE without any. */
        abstract int nextKind();

        /** The row, or the mark of the barrier, that comes next. */
        abstract long nextValue();

        abstract void passNext();

        abstract int left();

        abstract void beginMark(int mark);

        abstract void dropBarrier(int mark);

        abstract void goBack(int mark);
    }

    private static final class Source extends Channel {
        final long[] log = new long[MOST_ROWS];
        final int[] rowsAhead = new int[MOST_MARKS];
        final long[] sumsAhead = new long[MOST_MARKS];
        // The begun marks whose barriers did not come yet, the least first.
        final int[] due = new int[MOST_BEGUN];
        int dueCount;
        int logged;
        long loggedSum;
        int stands;
        boolean finished;

        Source(int to) {
            super(NONE, to);
        }

        void addRow(long v) {
            if (logged < log.length) {
                log[logged] = v;
                logged++;
                loggedSum += v;
            }
        }

        boolean barrierIsNext() {
            return dueCount > 0 && rowsAhead[due[0]] == stands;
        }

        int nextKind() {
            if (ended) {
                return NONE;
            }
            if (barrierIsNext()) {
                return BARRIER;
            }
            if (stands < logged) {
                return ROW;
            }
            return finished ? END : NONE;
        }

        long nextValue() {
            if (barrierIsNext()) {
                return due[0];
            }
            return stands < logged ? log[stands] : 0;
        }

        void passNext() {
            if (barrierIsNext()) {
                dropBarrier(due[0]);
            } else if (stands < logged) {
                stands++;
            }
        }

        int left() {
            return logged - stands;
        }

        void beginMark(int mark) {
            if (mark >= 0 && mark < rowsAhead.length && dueCount < due.length) {
                rowsAhead[mark] = logged;
                sumsAhead[mark] = loggedSum;
                due[dueCount] = mark;
                dueCount++;
            }
        }

        void dropBarrier(int mark) {
            int stay = 0;
            for (int i = 0; i < dueCount; i++) {
                if (due[i] != mark) {
                    due[stay] = due[i];
                    stay++;
                }
            }
            dueCount = stay;
        }

        void goBack(int mark) {
            if (mark >= 0 && mark < rowsAhead.length) {
                stands = rowsAhead[mark];
            }
        }
    }

    /** A channel between tasks. */
    private static final class Line extends Channel {
        // An end needs no credit, so one thing more than the credits has room.
        final int[] kinds = new int[CREDITS + 1];
        final long[] values = new long[CREDITS + 1];
        int size;

        Line(int from, int to) {
            super(from, to);
        }

        void put(int kind, long value) {
            if (size < kinds.length) {
                kinds[size] = kind;
                values[size] = value;
                size++;
            }
        }

        int nextKind() {
            return size > 0 ? kinds[0] : NONE;
        }

        long nextValue() {
            return size > 0 ? values[0] : 0;
        }

        void passNext() {
            if (size > 0) {
                size--;
                System.arraycopy(kinds, 1, kinds, 0, size);
                System.arraycopy(values, 1, values, 0, size);
            }
        }

        int left() {
            return size;
        }

        void beginMark(int mark) {
            // Its barrier comes from the task that the channel leads from.
        }

        void dropBarrier(int mark) {
            int stay = 0;
            for (int i = 0; i < size; i++) {
                if (kinds[i] != BARRIER || values[i] != mark) {
                    kinds[stay] = kinds[i];
                    values[stay] = values[i];
                    stay++;
                }
            }
            size = stay;
        }

        void goBack(int mark) {
            size = 0;
        }
    }

    private static final class Mark {
        final int number;
        final boolean[] kept;
        final boolean[] failing;
        final boolean[] acked;
        final long[] sums;
        final int[] rows;
        final boolean[] ended;
        int ackedCount;
        int condition = BEGUN;

        Mark(int number, int tasks) {
            int count = Math.max(tasks, 0);
            this.number = number;
            kept = new boolean[count];
            failing = new boolean[count];
            acked = new boolean[count];
            sums = new long[count];
            rows = new int[count];
            ended = new boolean[count];
        }

        void keepStateOf(Task task) {
            int t = task.number;
            if (t >= 0 && t < kept.length) {
                kept[t] = true;
                sums[t] = task.sum;
                rows[t] = task.rows;
                ended[t] = task.ended;
            }
        }
    }

    /** The acks that wait, in a ring. */
    private static final class AckRow {
        final int[] markOf = new int[ACK_ROOM];
        final int[] taskOf = new int[ACK_ROOM];
        int first;
        int size;

        void add(int mark, int task) {
            if (size < ACK_ROOM) {
                int at = first + size;
                if (at >= ACK_ROOM) {
                    at -= ACK_ROOM;
                }
                markOf[at] = mark;
                taskOf[at] = task;
                size++;
            }
        }

        int firstMark() {
            return markOf[first];
        }

        int firstTask() {
            return taskOf[first];
        }

        void dropFirst() {
            if (size > 0) {
                size--;
                first = first + 1 < ACK_ROOM ? first + 1 : 0;
            }
        }

        void clear() {
            first = 0;
            size = 0;
        }
    }
}
