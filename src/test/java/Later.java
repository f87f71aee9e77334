/** Ways to go on with an object, so that what it does not tell at once shows in later answers. */
final class Later {
    private interface PairCall {
        Object answer(int mark, int task);
    }

    private Later() {
    }

    static String goesOn(BarrierMarks b) {
        Text text = new Text();
        int tasks = Webs.taskCount(b);
        text.line("channel").add(() -> b.channel(BarrierMarks.NONE, 0));
        eachTurns(b, tasks, text);
        text.line("keeper").add(() -> b.turn(BarrierMarks.NONE)).add(() -> b.turn(BarrierMarks.NONE));
        int channels = b.told(0);
        for (int c = 0; c < channels; c++) {
            int channel = c;
            text.line("source " + c)
                .add(() -> b.send(channel, 100 + channel))
                .add(() -> b.send(channel, 200 + channel));
        }
        text.line("mark").add(b::mark);
        eachTurns(b, tasks, text);
        text.line("play").add(() -> b.play(5, 300));
        for (int c = 0; c < channels; c++) {
            int channel = c;
            text.line("source " + c).add(() -> b.finish(channel));
        }
        text.line("play").add(() -> b.play(6, 2000)).add(b::mark).add(() -> b.play(7, 100));
        return text + Shown.tasks(b);
    }

    static String goesBack(BarrierMarks b) {
        Text text = new Text();
        int marks = b.told(1);
        for (int m = 0; m < marks; m++) {
            int mark = m;
            text.line("mark " + m).add(() -> b.restore(mark)).add(() -> b.play(mark, 7));
        }
        eachTurns(b, Webs.taskCount(b), text);
        return text + Shown.tasks(b);
    }

    static String givesUp(BarrierMarks b) {
        Text text = new Text();
        int marks = b.told(1);
        for (int m = 0; m < marks; m++) {
            int mark = m;
            text.line("mark " + m).add(() -> b.giveUp(mark));
        }
        eachTurns(b, Webs.taskCount(b), text);
        return text + Shown.tasks(b);
    }

    static String fails(BarrierMarks b) {
        Text text = new Text();
        eachPair(b, text, (mark, task) -> {
            b.fails(task, mark);
            return "told";
        });
        text.line("play").add(() -> b.play(8, 500));
        return text + Shown.tasks(b);
    }

    static String sendsAgain(BarrierMarks b) {
        Text text = new Text();
        eachPair(b, text, b::again);
        text.line("keeper");
        for (int i = 0; i < 20; i++) {
            text.add(() -> b.turn(BarrierMarks.NONE));
        }
        return text + Shown.tasks(b);
    }

    /** Of each task and the three latest marks, since those are the ones that may well be begun. */
    private static void eachPair(BarrierMarks b, Text text, PairCall call) {
        int marks = b.told(1);
        int tasks = Webs.taskCount(b);
        for (int m = Math.max(0, marks - 3); m < marks; m++) {
            for (int t = 0; t < tasks; t++) {
                int mark = m;
                int task = t;
                text.line("mark " + m + ", task " + t).add(() -> call.answer(mark, task));
            }
        }
    }

    private static void eachTurns(BarrierMarks b, int tasks, Text text) {
        for (int t = 0; t < tasks; t++) {
            int task = t;
            // The sum tells from which channel a row came.
            text.line("turns of " + t)
                .add(() -> b.turn(task)).add(() -> b.state(task))
                .add(() -> b.turn(task)).add(() -> b.state(task));
        }
    }
}
