import java.util.ArrayList;
import java.util.Arrays;
import java.util.HashMap;
import java.util.HashSet;
import java.util.List;
import java.util.Map;
import java.util.Set;
import java.util.TreeMap;

/**
 * The document written down a second time, slowly and without regard to room: sources ask all marks
 * for barriers anew each time, and exact carries each row through by itself.
 */
final class PlainModel {
    record Thing(int kind, long value) {
    }

    record State(long sum, int rows, boolean ended) {
    }

    record Ack(int mark, int task) {
    }

    static final class Channel {
        int from;
        int to;
        List<Long> log = new ArrayList<>();
        boolean finished;
        int stands;
        List<Thing> things = new ArrayList<>();
        Integer held;
        boolean ended;

        boolean source() {
            return from < 0;
        }
    }

    static final class Mark {
        String condition = "begun";
        Map<Integer, Integer> put = new HashMap<>();
        Set<Integer> came = new HashSet<>();
        Map<Integer, State> kept = new TreeMap<>();
        Set<Integer> failing = new HashSet<>();
        Set<Integer> taken = new HashSet<>();

        boolean begun() {
            return condition.equals("begun");
        }
    }

    final int n;
    final List<Channel> channels = new ArrayList<>();
    final List<Mark> marks = new ArrayList<>();
    final List<Ack> acks = new ArrayList<>();
    final long[] sums;
    final int[] rows;
    final boolean[] ended;
    final int[] latest;
    boolean told;

    PlainModel(int tasks) {
        n = tasks < 1 ? 1 : tasks > 8 ? 8 : tasks;
        sums = new long[n];
        rows = new int[n];
        ended = new boolean[n];
        latest = new int[n];
        Arrays.fill(latest, -1);
    }

    int channel(int from, int to) {
        bounds(from >= -1 && from < n && to >= 0 && to < n);
        state(channels.size() < 16 && !told);
        if (from >= 0 && (into(from).isEmpty() || from == to || below(to).contains(from))) {
            throw new IllegalArgumentException();
        }
        Channel c = new Channel();
        c.from = from;
        c.to = to;
        channels.add(c);
        return channels.size() - 1;
    }

    int send(int channel, long v) {
        bounds(isChannel(channel));
        Channel c = channels.get(channel);
        state(c.source() && !c.finished && c.log.size() < 200);
        told = true;
        c.log.add(v);
        return c.log.size();
    }

    int finish(int channel) {
        bounds(isChannel(channel));
        Channel c = channels.get(channel);
        state(c.source() && !c.finished);
        told = true;
        c.finished = true;
        return c.log.size();
    }

    int mark() {
        state(begunMarks() < 3 && marks.size() < 40);
        told = true;
        Mark m = new Mark();
        marks.add(m);
        for (int c = 0; c < channels.size(); c++) {
            if (channels.get(c).source()) {
                m.put.put(c, channels.get(c).log.size());
            }
        }
        for (int t = 0; t < n; t++) {
            if (ended[t] || into(t).isEmpty()) {
                keep(marks.size() - 1, t);
            }
        }
        return marks.size() - 1;
    }

    int turn(int task) {
        bounds(task >= -1 && task < n);
        return task < 0 ? keeper() : taskTurn(task);
    }

    int play(long seed, int turns) {
        if (turns < 1 || turns > 2000) {
            throw new IllegalArgumentException();
        }
        long x = seed;
        int taken = 0;
        for (int i = 0; i < turns; i++) {
            x = 6364136223846793005L * x + 1442695040888963407L;
            long who = (x >>> 33) % (n + 1);
            taken += turn(who == n ? -1 : (int) who) == 1 ? 1 : 0;
        }
        return taken;
    }

    int giveUp(int mark) {
        bounds(isMark(mark));
        state(marks.get(mark).begun());
        stop(mark, "given up");
        return marks.get(mark).taken.size();
    }

    void fails(int task, int mark) {
        bounds(isTask(task) && isMark(mark));
        Mark m = marks.get(mark);
        state(m.begun() && !m.kept.containsKey(task) && !m.failing.contains(task));
        m.failing.add(task);
    }

    int again(int mark, int task) {
        bounds(isTask(task) && isMark(mark));
        Mark m = marks.get(mark);
        state(m.begun() && m.kept.containsKey(task) && acks.size() < 200);
        acks.add(new Ack(mark, task));
        return acks.size();
    }

    int restore(int mark) {
        bounds(isMark(mark));
        Mark m = marks.get(mark);
        state(m.condition.equals("complete"));
        for (int i = 0; i < marks.size(); i++) {
            if (marks.get(i).begun()) {
                stop(i, "given up");
            }
        }
        acks.clear();
        for (int t = 0; t < n; t++) {
            State s = m.kept.get(t);
            sums[t] = s.sum();
            rows[t] = s.rows();
            ended[t] = s.ended();
            latest[t] = -1;
        }
        int anew = 0;
        for (int i = 0; i < channels.size(); i++) {
            Channel c = channels.get(i);
            c.held = null;
            c.things.clear();
            c.ended = ended[c.to] || !c.source() && ended[c.from];
            if (c.source()) {
                c.stands = m.put.get(i);
                anew += c.log.size() - c.stands;
            }
        }
        return anew;
    }

    long state(int task) {
        bounds(isTask(task));
        return sums[task];
    }

    int task(int task, int what) {
        bounds(isTask(task));
        if (what != 0 && what != 1) {
            throw new IllegalArgumentException();
        }
        return what == 0 ? rows[task] : ended[task] ? 1 : 0;
    }

    long kept(int mark, int task) {
        bounds(isTask(task) && isMark(mark));
        state(marks.get(mark).kept.containsKey(task));
        return marks.get(mark).kept.get(task).sum();
    }

    int keptRows(int mark, int task) {
        kept(mark, task);
        return marks.get(mark).kept.get(task).rows();
    }

    int position(int mark, int channel) {
        bounds(isMark(mark) && isChannel(channel) && channels.get(channel).source());
        return marks.get(mark).put.get(channel);
    }

    int condition(int mark) {
        bounds(isMark(mark));
        return List.of("begun", "complete", "given up").indexOf(marks.get(mark).condition);
    }

    int acknowledged(int mark) {
        bounds(isMark(mark));
        return marks.get(mark).taken.size();
    }

    boolean exact(int mark) {
        bounds(isMark(mark));
        Mark m = marks.get(mark);
        state(m.condition.equals("complete"));
        List<List<Long>> came = new ArrayList<>();
        for (int t = 0; t < n; t++) {
            came.add(new ArrayList<>());
        }
        for (int i = 0; i < channels.size(); i++) {
            Channel c = channels.get(i);
            if (c.source()) {
                for (long v : c.log.subList(0, m.put.get(i))) {
                    carry(c.to, v, came);
                }
            }
        }
        boolean same = true;
        for (int t = 0; t < n; t++) {
            long sum = came.get(t).stream().mapToLong(v -> v).sum();
            same &= m.kept.get(t).sum() == sum && m.kept.get(t).rows() == came.get(t).size();
        }
        return same;
    }

    int held(int channel) {
        bounds(isChannel(channel));
        Integer held = channels.get(channel).held;
        return held == null ? -1 : held;
    }

    int waiting(int channel) {
        bounds(isChannel(channel));
        Channel c = channels.get(channel);
        return c.source() ? c.log.size() - c.stands : c.things.size();
    }

    int kind(int channel, int k) {
        return thing(channel, k).kind();
    }

    long value(int channel, int k) {
        return thing(channel, k).value();
    }

    int told(int what) {
        switch (what) {
            case 0: return channels.size();
            case 1: return marks.size();
            case 2: return acks.size();
            case 3: return begunMarks();
            default: throw new IllegalArgumentException();
        }
    }

    private Thing thing(int channel, int k) {
        bounds(isChannel(channel));
        Channel c = channels.get(channel);
        bounds(!c.source() && k >= 0 && k < c.things.size());
        return c.things.get(k);
    }

    private void carry(int task, long v, List<List<Long>> came) {
        came.get(task).add(v);
        for (Channel c : out(task)) {
            carry(c.to, 3 * v + task, came);
        }
    }

    private int keeper() {
        if (acks.isEmpty()) {
            return 0;
        }
        Ack ack = acks.remove(0);
        Mark m = marks.get(ack.mark());
        if (!m.begun() || !m.taken.add(ack.task()) || m.taken.size() < n) {
            return 7;
        }
        stop(ack.mark(), "complete");
        for (int i = 0; i < ack.mark(); i++) {
            if (marks.get(i).begun()) {
                stop(i, "given up");
            }
        }
        return 8;
    }

    private int taskTurn(int task) {
        List<Integer> into = into(task);
        if (ended[task] || into.isEmpty()) {
            return 0;
        }
        Set<Integer> held = new HashSet<>();
        boolean open = false;
        for (int i : into) {
            Channel c = channels.get(i);
            if (c.held != null) {
                held.add(c.held);
            } else if (!c.ended) {
                open = true;
            }
        }
        if (held.size() > 1) {
            throw new AssertionError("held for two marks");
        }
        if (!open && !held.isEmpty()) {
            return keepTurn(task, held.iterator().next());
        }
        return open ? take(task) : end(task);
    }

    private int keepTurn(int task, int mark) {
        if (!credit(task)) {
            return 0;
        }
        if (marks.get(mark).failing.contains(task)) {
            stop(mark, "given up");
            return 5;
        }
        for (int i : into(task)) {
            channels.get(i).held = null;
        }
        for (Channel c : out(task)) {
            c.things.add(new Thing(1, mark));
        }
        keep(mark, task);
        return 4;
    }

    private int end(int task) {
        ended[task] = true;
        for (Channel c : out(task)) {
            c.things.add(new Thing(2, 0));
        }
        for (int m = 0; m < marks.size(); m++) {
            if (marks.get(m).begun() && !marks.get(m).kept.containsKey(task)) {
                keep(m, task);
            }
        }
        return 6;
    }

    private int take(int task) {
        List<Integer> order = new ArrayList<>();
        for (int i : into(task)) {
            if (i > latest[task]) {
                order.add(i);
            }
        }
        for (int i : into(task)) {
            if (i <= latest[task]) {
                order.add(i);
            }
        }
        for (int i : order) {
            Channel c = channels.get(i);
            Thing next = c.held != null || c.ended ? null : c.source() ? nextOfSource(i) : c.things.isEmpty() ? null : c.things.get(0);
            if (next != null) {
                return takeThing(task, i, next);
            }
        }
        return 0;
    }

    private int takeThing(int task, int channel, Thing thing) {
        Channel c = channels.get(channel);
        if (thing.kind() == 0 && !credit(task)) {
            return 0;
        }
        latest[task] = channel;
        if (!c.source()) {
            c.things.remove(0);
        } else if (thing.kind() == 0) {
            c.stands++;
        } else if (thing.kind() == 1) {
            marks.get((int) thing.value()).came.add(channel);
        }
        if (thing.kind() == 0) {
            sums[task] += thing.value();
            rows[task]++;
            for (Channel o : out(task)) {
                o.things.add(new Thing(0, 3 * thing.value() + task));
            }
        } else if (thing.kind() == 1) {
            c.held = (int) thing.value();
        } else {
            c.ended = true;
        }
        return thing.kind() + 1;
    }

    private Thing nextOfSource(int channel) {
        Channel c = channels.get(channel);
        for (int m = 0; m < marks.size(); m++) {
            Mark mark = marks.get(m);
            if (mark.begun() && mark.put.get(channel) == c.stands && !mark.came.contains(channel)) {
                return new Thing(1, m);
            }
        }
        if (c.stands < c.log.size()) {
            return new Thing(0, c.log.get(c.stands));
        }
        return c.finished ? new Thing(2, 0) : null;
    }

    private void stop(int mark, String condition) {
        marks.get(mark).condition = condition;
        for (Channel c : channels) {
            c.things.removeIf(x -> x.kind() == 1 && x.value() == mark);
            if (c.held != null && c.held == mark) {
                c.held = null;
            }
        }
    }

    private void keep(int mark, int task) {
        if (marks.get(mark).kept.put(task, new State(sums[task], rows[task], ended[task])) != null) {
            throw new AssertionError("kept twice");
        }
        acks.add(new Ack(mark, task));
    }

    private boolean credit(int task) {
        return out(task).stream().allMatch(c -> c.things.size() < 8);
    }

    private int begunMarks() {
        return (int) marks.stream().filter(Mark::begun).count();
    }

    private List<Integer> into(int task) {
        List<Integer> found = new ArrayList<>();
        for (int i = 0; i < channels.size(); i++) {
            if (channels.get(i).to == task) {
                found.add(i);
            }
        }
        return found;
    }

    private List<Channel> out(int task) {
        return channels.stream().filter(c -> c.from == task).toList();
    }

    private Set<Integer> below(int task) {
        Set<Integer> found = new HashSet<>();
        for (Channel c : out(task)) {
            found.add(c.to);
            found.addAll(below(c.to));
        }
        return found;
    }

    private boolean isTask(int task) {
        return task >= 0 && task < n;
    }

    private boolean isChannel(int channel) {
        return channel >= 0 && channel < channels.size();
    }

    private boolean isMark(int mark) {
        return mark >= 0 && mark < marks.size();
    }

    private static void bounds(boolean fine) {
        if (!fine) {
            throw new IndexOutOfBoundsException();
        }
    }

    private static void state(boolean fine) {
        if (!fine) {
            throw new IllegalStateException();
        }
    }
}
