/** Webs that many tests begin with. */
final class Webs {
    private static final int NONE = BarrierMarks.NONE;

    private Webs() {
    }

    /** Each pair of ends is a channel. */
    static BarrierMarks of(int tasks, int... ends) {
        BarrierMarks b = new BarrierMarks(tasks);
        for (int i = 0; i + 1 < ends.length; i += 2) {
            b.channel(ends[i], ends[i + 1]);
        }
        return b;
    }

    /** Outside to 0, and so on to the last task. */
    static BarrierMarks chain(int tasks) {
        BarrierMarks b = new BarrierMarks(tasks);
        for (int t = 0; t < tasks; t++) {
            b.channel(t - 1, t);
        }
        return b;
    }

    /** Sources 0 and 1 lead to tasks 0 and 1, channels 2 and 3 from these to task 2. */
    static BarrierMarks join() {
        return of(3, NONE, 0, NONE, 1, 0, 2, 1, 2);
    }

    static int taskCount(BarrierMarks b) {
        int count = 0;
        while (count < 9 && isTask(b, count)) {
            count++;
        }
        return count;
    }

    private static boolean isTask(BarrierMarks b, int task) {
        return !Check.told(() -> b.state(task)).equals(Check.BOUNDS);
    }
}
