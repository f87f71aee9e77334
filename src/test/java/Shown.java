/** What an object tells of itself, in texts: in parts, since an object is used for 512 calls at most. */
final class Shown {
    private static final int LATEST_MARKS = 6;

    private Shown() {
    }

    static String tasks(BarrierMarks b) {
        Text text = new Text();
        for (int what = 0; what < 4; what++) {
            int each = what;
            text.add(() -> b.told(each));
        }
        int count = Webs.taskCount(b);
        for (int t = 0; t < count; t++) {
            int task = t;
            text.line("task " + t).add(() -> b.state(task)).add(() -> b.task(task, 0)).add(() -> b.task(task, 1));
        }
        return text.toString();
    }

    static String channels(BarrierMarks b) {
        Text text = new Text();
        int count = b.told(0);
        for (int c = 0; c < count; c++) {
            int channel = c;
            int waiting = b.waiting(c);
            text.line("channel " + c).add(() -> b.held(channel)).add(() -> waiting);
            for (int k = 0; k < waiting && k < 9; k++) {
                int at = k;
                text.add(() -> b.kind(channel, at)).add(() -> b.value(channel, at));
            }
        }
        return text.toString();
    }

    static String marks(BarrierMarks b) {
        Text text = new Text();
        int count = b.told(1);
        int tasks = Webs.taskCount(b);
        int channels = b.told(0);
        for (int m = Math.max(0, count - LATEST_MARKS); m < count; m++) {
            int mark = m;
            text.line("mark " + m)
                .add(() -> b.condition(mark))
                .add(() -> b.acknowledged(mark))
                .add(() -> b.exact(mark));
            for (int t = 0; t < tasks; t++) {
                int task = t;
                text.add(() -> b.kept(mark, task)).add(() -> b.keptRows(mark, task));
            }
            for (int c = 0; c < channels; c++) {
                int channel = c;
                text.add(() -> b.position(mark, channel));
            }
        }
        return text.toString();
    }
}
