import java.util.HashSet;
import java.util.Map;
import java.util.Random;
import java.util.Set;
import java.util.TreeMap;

/** Many runs of 512 calls, drawn with fixed seeds, on the class and on the plain model. */
public final class ModelTest {
    private static final int RUNS = 4000;
    private static final int CALLS = 512;
    private static final int KINDS = 11;
    // How often, of a thousand: send, finish, mark, turn, keeper, play, giveUp, fails, again, restore, channel.
    private static final int[][] HABITS = {
        {200, 3, 67, 465, 105, 20, 20, 30, 50, 30, 10},
        {200, 3, 67, 330, 240, 20, 20, 30, 50, 30, 10},
        {200, 30, 40, 465, 105, 20, 20, 30, 50, 30, 10},
        {250, 30, 40, 595, 40, 5, 10, 5, 10, 5, 10},
        {200, 3, 67, 570, 0, 20, 20, 30, 50, 30, 10},
        // These come to a full log, to forty marks, and to acks that may not be sent again.
        {800, 1, 20, 110, 30, 10, 4, 5, 10, 5, 5},
        {40, 2, 250, 300, 100, 20, 230, 20, 10, 23, 5},
        {40, 0, 30, 125, 0, 0, 0, 0, 800, 0, 5},
    };

    private final Random random;
    private final BarrierMarks real;
    private final PlainModel model;
    private final int run;
    private final int[] habit;
    private final int longestPlay;
    private final int favourite;
    private final Set<String> reached = new HashSet<>();
    private final Map<String, Integer> seen;

    private ModelTest(int run, Map<String, Integer> seen) {
        this.run = run;
        this.seen = seen;
        random = new Random(run);
        int tasks = random.nextInt(12) - 1;
        habit = HABITS[random.nextInt(HABITS.length)];
        favourite = random.nextInt(10);
        longestPlay = random.nextInt(3) > 0 ? 20 : 120;
        real = new BarrierMarks(tasks);
        model = new PlainModel(tasks);
    }

    public static void main(String[] args) {
        Map<String, Integer> seen = new TreeMap<>();
        for (int run = 0; run < RUNS; run++) {
            new ModelTest(run, seen).go();
        }
        // A run that never gets somewhere proves nothing there.
        String[] oftenNeeded = {"turn 1", "turn 2", "turn 3", "turn 4", "turn 5", "turn 6", "turn 7", "turn 8",
            "restore", "again", "fails", "giveUp", "exact", "kind", "value"};
        for (String each : oftenNeeded) {
            Check.due("often enough: " + each, true, () -> seen.getOrDefault(each, 0) > 500);
        }
        String[] limits = {"sixteen channels", "a full log", "three marks begun", "forty marks", "200 acks", "nine things"};
        for (String each : limits) {
            Check.due("often enough: " + each, true, () -> seen.getOrDefault(each, 0) > 20);
        }
        Check.end("ModelTest");
    }

    private void go() {
        int channels = 1 + random.nextInt(40);
        int call = 0;
        for (; call < channels; call++) {
            makeChannel();
        }
        for (; call < CALLS; call++) {
            if (random.nextInt(100) < 35) {
                ask();
            } else {
                act();
                lookForLimits();
            }
        }
        reached.forEach(limit -> seen.merge(limit, 1, Integer::sum));
    }

    private void lookForLimits() {
        look("sixteen channels", model.channels.size() == 16);
        look("a full log", model.channels.stream().anyMatch(c -> c.log.size() == 200));
        look("three marks begun", model.told(3) == 3);
        look("forty marks", model.marks.size() == 40);
        look("200 acks", model.acks.size() >= 200);
        look("nine things", model.channels.stream().anyMatch(c -> c.things.size() == 9));
    }

    private void look(String limit, boolean isReached) {
        if (isReached) {
            reached.add(limit);
        }
    }

    private void same(String what, Check.Call modelCall, Check.Call realCall) {
        String want = Check.told(modelCall);
        Check.due("run " + run + ": " + what, want, realCall);
        String name = what.substring(0, what.indexOf('('));
        String count = want.startsWith("throws") ? "refused " + name : name.equals("turn") ? "turn " + want : name;
        seen.merge(count, 1, Integer::sum);
    }

    private void makeChannel() {
        int from = random.nextInt(5) == 0 ? -1 : aTask();
        if (from >= 0 && random.nextInt(4) > 0 && !model.channels.isEmpty()) {
            from = model.channels.get(random.nextInt(model.channels.size())).to;
        }
        makeChannelFrom(from);
    }

    private void makeChannelFrom(int from) {
        int to = aTask();
        same("channel(" + from + ", " + to + ")", () -> model.channel(from, to), () -> real.channel(from, to));
    }

    private int aTask() {
        return random.nextInt(60) == 0 ? random.nextInt(12) - 2 : random.nextInt(model.n);
    }

    /** One that has many turns fills the channels from it. */
    private int aTurner() {
        return favourite < model.n && random.nextBoolean() ? favourite : aTask();
    }

    private int aChannel() {
        return random.nextInt(60) == 0 ? random.nextInt(20) - 2 : random.nextInt(Math.max(1, model.channels.size()));
    }

    private int aFullLine() {
        for (int i = 0; i < 20; i++) {
            int channel = aChannel();
            if (channel >= 0 && channel < model.channels.size() && !model.channels.get(channel).things.isEmpty()) {
                return channel;
            }
        }
        return aChannel();
    }

    private int aSource() {
        for (int i = 0; i < 20; i++) {
            int channel = aChannel();
            if (channel < 0 || channel >= model.channels.size() || model.channels.get(channel).source()) {
                return channel;
            }
        }
        return aChannel();
    }

    private int aMark() {
        int count = model.marks.size();
        if (random.nextInt(40) == 0) {
            return random.nextInt(44) - 2;
        }
        return random.nextInt(3) == 0 ? random.nextInt(count + 1) : count - 1 - random.nextInt(Math.min(3, count + 1));
    }

    /** Mostly a task that has kept for the mark. */
    private int aKeeperOf(int mark) {
        for (int i = 0; i < 10; i++) {
            int task = aTask();
            if (mark < 0 || mark >= model.marks.size() || model.marks.get(mark).kept.containsKey(task)) {
                return task;
            }
        }
        return aTask();
    }

    private long aRow() {
        return random.nextInt(4) == 0 ? random.nextLong() : random.nextInt(100);
    }

    private int aKind() {
        int draw = random.nextInt(1000);
        for (int kind = 0; kind < KINDS - 1; kind++) {
            draw -= habit[kind];
            if (draw < 0) {
                return kind;
            }
        }
        return KINDS - 1;
    }

    private void act() {
        int task = aTask();
        int mark = aMark();
        int source = aSource();
        long v = aRow();
        int turns = random.nextInt(40) == 0 ? random.nextInt(2100) - 50 : random.nextInt(longestPlay);
        switch (aKind()) {
            case 0 -> same("send(" + source + ", " + v + ")", () -> model.send(source, v), () -> real.send(source, v));
            case 1 -> same("finish(" + source + ")", () -> model.finish(source), () -> real.finish(source));
            case 2 -> same("mark()", model::mark, real::mark);
            case 3 -> takeTurn(aTurner());
            case 4 -> takeTurn(-1);
            case 5 -> same("play(" + v + ", " + turns + ")", () -> model.play(v, turns), () -> real.play(v, turns));
            case 6 -> same("giveUp(" + mark + ")", () -> model.giveUp(mark), () -> real.giveUp(mark));
            case 7 -> same("fails(" + task + ", " + mark + ")", () -> told(() -> model.fails(task, mark)), () -> told(() -> real.fails(task, mark)));
            case 8 -> sendAgain(mark, aKeeperOf(mark));
            case 9 -> same("restore(" + mark + ")", () -> model.restore(mark), () -> real.restore(mark));
            default -> makeChannel();
        }
    }

    private void takeTurn(int who) {
        same("turn(" + who + ")", () -> model.turn(who), () -> real.turn(who));
    }

    private void sendAgain(int mark, int task) {
        same("again(" + mark + ", " + task + ")", () -> model.again(mark, task), () -> real.again(mark, task));
    }

    private static Object told(Runnable call) {
        call.run();
        return "told";
    }

    private void ask() {
        int task = aTask();
        int mark = aMark();
        int channel = aChannel();
        int small = random.nextInt(40) == 0 ? random.nextInt(14) - 3 : random.nextInt(4);
        int line = random.nextInt(10) == 0 ? channel : aFullLine();
        int thing = random.nextInt(11) - 1;
        switch (random.nextInt(13)) {
            case 0 -> same("state(" + task + ")", () -> model.state(task), () -> real.state(task));
            case 1 -> same("task(" + task + ", " + small + ")", () -> model.task(task, small), () -> real.task(task, small));
            case 2 -> same("kept(" + mark + ", " + task + ")", () -> model.kept(mark, task), () -> real.kept(mark, task));
            case 3 -> same("keptRows(" + mark + ", " + task + ")", () -> model.keptRows(mark, task), () -> real.keptRows(mark, task));
            case 4 -> same("position(" + mark + ", " + channel + ")", () -> model.position(mark, channel), () -> real.position(mark, channel));
            case 5 -> same("condition(" + mark + ")", () -> model.condition(mark), () -> real.condition(mark));
            case 6 -> same("acknowledged(" + mark + ")", () -> model.acknowledged(mark), () -> real.acknowledged(mark));
            case 7 -> same("exact(" + mark + ")", () -> model.exact(mark), () -> real.exact(mark));
            case 8 -> same("held(" + channel + ")", () -> model.held(channel), () -> real.held(channel));
            case 9 -> same("waiting(" + channel + ")", () -> model.waiting(channel), () -> real.waiting(channel));
            case 10 -> same("kind(" + line + ", " + thing + ")", () -> model.kind(line, thing), () -> real.kind(line, thing));
            case 11 -> same("value(" + line + ", " + thing + ")", () -> model.value(line, thing), () -> real.value(line, thing));
            default -> same("told(" + small + ")", () -> model.told(small), () -> real.told(small));
        }
    }
}
