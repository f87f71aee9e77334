import java.util.Map;
import java.util.Random;
import java.util.TreeMap;

/** Many runs of 512 calls, drawn with fixed seeds, on the class and on the plain model. */
public final class ModelTest {
    private static final int RUNS = 3000;
    private static final int CALLS = 512;

    private final Random random;
    private final BarrierMarks real;
    private final PlainModel model;
    private final int run;
    private final boolean keeperIsSlow;
    private final boolean playsLittle;
    private final boolean finishesOften;
    private final Map<String, Integer> seen;

    private ModelTest(int run, Map<String, Integer> seen) {
        this.run = run;
        this.seen = seen;
        random = new Random(run);
        int tasks = random.nextInt(12) - 1;
        keeperIsSlow = random.nextInt(4) == 0;
        playsLittle = random.nextInt(3) > 0;
        finishesOften = random.nextInt(3) == 0;
        real = new BarrierMarks(tasks);
        model = new PlainModel(tasks);
    }

    public static void main(String[] args) {
        Map<String, Integer> seen = new TreeMap<>();
        for (int run = 0; run < RUNS; run++) {
            new ModelTest(run, seen).go();
        }
        // A run that never gets somewhere proves nothing there.
        String[] needed = {"turn 1", "turn 2", "turn 3", "turn 4", "turn 5", "turn 6", "turn 7", "turn 8",
            "restore", "again", "fails", "giveUp", "exact", "kind", "value"};
        for (String each : needed) {
            Check.due("often enough: " + each, true, () -> seen.getOrDefault(each, 0) > 1000);
        }
        Check.end("ModelTest");
    }

    private void go() {
        int channels = 1 + random.nextInt(24);
        int call = 0;
        for (; call < channels; call++) {
            makeChannel();
        }
        for (; call < CALLS; call++) {
            if (random.nextInt(100) < 35) {
                ask();
            } else {
                act();
            }
        }
    }

    private void same(String what, Check.Call modelCall, Check.Call realCall) {
        String want = Check.told(modelCall);
        Check.due("run " + run + ": " + what, want, realCall);
        String name = what.substring(0, what.indexOf('('));
        String count = want.startsWith("throws") ? "refused " + name : name.equals("turn") ? "turn " + want : name;
        seen.merge(count, 1, Integer::sum);
    }

    private void makeChannel() {
        int from = random.nextInt(5) == 0 ? -1 : aTask();
        if (from >= 0 && random.nextInt(4) > 0 && !model.channels.isEmpty()) {
            from = model.channels.get(random.nextInt(model.channels.size())).to;
        }
        makeChannelFrom(from);
    }

    private void makeChannelFrom(int from) {
        int to = aTask();
        same("channel(" + from + ", " + to + ")", () -> model.channel(from, to), () -> real.channel(from, to));
    }

    private int aTask() {
        return random.nextInt(60) == 0 ? random.nextInt(12) - 2 : random.nextInt(model.n);
    }

    private int aChannel() {
        return random.nextInt(60) == 0 ? random.nextInt(20) - 2 : random.nextInt(Math.max(1, model.channels.size()));
    }

    private int aFullLine() {
        for (int i = 0; i < 20; i++) {
            int channel = aChannel();
            if (channel >= 0 && channel < model.channels.size() && !model.channels.get(channel).things.isEmpty()) {
                return channel;
            }
        }
        return aChannel();
    }

    private int aSource() {
        for (int i = 0; i < 20; i++) {
            int channel = aChannel();
            if (channel < 0 || channel >= model.channels.size() || model.channels.get(channel).source()) {
                return channel;
            }
        }
        return aChannel();
    }

    private int aMark() {
        int count = model.marks.size();
        if (random.nextInt(40) == 0) {
            return random.nextInt(44) - 2;
        }
        return random.nextInt(3) == 0 ? random.nextInt(count + 1) : count - 1 - random.nextInt(Math.min(3, count + 1));
    }

    private long aRow() {
        return random.nextInt(4) == 0 ? random.nextLong() : random.nextInt(100);
    }

    private void act() {
        int draw = random.nextInt(1000);
        int task = aTask();
        int mark = aMark();
        if (draw < 200) {
            int source = aSource();
            long v = aRow();
            same("send(" + source + ", " + v + ")", () -> model.send(source, v), () -> real.send(source, v));
        } else if (draw < (finishesOften ? 215 : 203)) {
            int source = aSource();
            same("finish(" + source + ")", () -> model.finish(source), () -> real.finish(source));
        } else if (draw < 270) {
            same("mark()", model::mark, real::mark);
        } else if (draw < (playsLittle ? 735 : 600)) {
            same("turn(" + task + ")", () -> model.turn(task), () -> real.turn(task));
        } else if (draw < 840) {
            int who = keeperIsSlow ? task : -1;
            same("turn(" + who + ")", () -> model.turn(who), () -> real.turn(who));
        } else if (draw < 860) {
            long seed = random.nextLong();
            int turns = random.nextInt(40) == 0 ? random.nextInt(2100) - 50 : random.nextInt(playsLittle ? 20 : 120);
            same("play(" + seed + ", " + turns + ")", () -> model.play(seed, turns), () -> real.play(seed, turns));
        } else if (draw < 880) {
            same("giveUp(" + mark + ")", () -> model.giveUp(mark), () -> real.giveUp(mark));
        } else if (draw < 910) {
            same("fails(" + task + ", " + mark + ")", () -> { model.fails(task, mark); return 0; }, () -> { real.fails(task, mark); return 0; });
        } else if (draw < 960) {
            same("again(" + mark + ", " + task + ")", () -> model.again(mark, task), () -> real.again(mark, task));
        } else if (draw < 990) {
            same("restore(" + mark + ")", () -> model.restore(mark), () -> real.restore(mark));
        } else {
            makeChannel();
        }
    }

    private void ask() {
        int task = aTask();
        int mark = aMark();
        int channel = aChannel();
        int small = random.nextInt(40) == 0 ? random.nextInt(14) - 3 : random.nextInt(4);
        int line = random.nextInt(10) == 0 ? channel : aFullLine();
        int thing = random.nextInt(11) - 1;
        switch (random.nextInt(13)) {
            case 0 -> same("state(" + task + ")", () -> model.state(task), () -> real.state(task));
            case 1 -> same("task(" + task + ", " + small + ")", () -> model.task(task, small), () -> real.task(task, small));
            case 2 -> same("kept(" + mark + ", " + task + ")", () -> model.kept(mark, task), () -> real.kept(mark, task));
            case 3 -> same("keptRows(" + mark + ", " + task + ")", () -> model.keptRows(mark, task), () -> real.keptRows(mark, task));
            case 4 -> same("position(" + mark + ", " + channel + ")", () -> model.position(mark, channel), () -> real.position(mark, channel));
            case 5 -> same("condition(" + mark + ")", () -> model.condition(mark), () -> real.condition(mark));
            case 6 -> same("acknowledged(" + mark + ")", () -> model.acknowledged(mark), () -> real.acknowledged(mark));
            case 7 -> same("exact(" + mark + ")", () -> model.exact(mark), () -> real.exact(mark));
            case 8 -> same("held(" + channel + ")", () -> model.held(channel), () -> real.held(channel));
            case 9 -> same("waiting(" + channel + ")", () -> model.waiting(channel), () -> real.waiting(channel));
            case 10 -> same("kind(" + line + ", " + thing + ")", () -> model.kind(line, thing), () -> real.kind(line, thing));
            case 11 -> same("value(" + line + ", " + thing + ")", () -> model.value(line, thing), () -> real.value(line, thing));
            default -> same("told(" + small + ")", () -> model.told(small), () -> real.told(small));
        }
    }
}
