import java.util.ArrayList;
import java.util.List;
import java.util.Random;

/**
 * The document's first sentence, without its rules of turns: whatever is marked, given up, failed and
 * gone back to on the way, a complete mark is what the rows ahead of its barriers come to, all can go
 * back to it, and in the end each task has taken each row once.
 */
public final class WholeTest {
    private static final int NONE = BarrierMarks.NONE;
    private static final int RUNS = 1500;
    // The document promises nothing beyond 512 calls, so the first part of a run leaves calls for the last.
    private static final int MOST_CALLS = 512;
    private static final int CALLS_ON_THE_WAY = 230;
    private static final int CALLS_FOR_THE_END = 130;
    private static final int MOST_ROWS = 12;
    private static final int MOST_PLAYS = 40;
    private static final int COMPLETE = 1;

    private static int goneBack = 0;
    private static int goneBackWithEnded = 0;
    private static int mostCalls = 0;

    private record Way(int from, int to, List<Long> rows) {
    }

    private final int run;
    private final Random random;
    private final int tasks;
    private final BarrierMarks used;
    private final List<Way> ways = new ArrayList<>();
    private final List<int[]> putBehind = new ArrayList<>();
    private int calls = 0;

    private WholeTest(int run) {
        this.run = run;
        random = new Random(run);
        tasks = 1 + random.nextInt(8);
        used = new BarrierMarks(tasks);
    }

    public static void main(String[] args) {
        for (int run = 0; run < RUNS; run++) {
            new WholeTest(run).go();
        }
        // Runs that never go back would prove little.
        Check.due("often gone back", true, () -> goneBack > 3000);
        Check.due("often gone back to where some had ended, and some not", true, () -> goneBackWithEnded > 300);
        Check.due("no more calls than are promised", true, () -> mostCalls <= MOST_CALLS);
        Check.end("WholeTest");
    }

    private void go() {
        makeWays();
        while (calls < CALLS_ON_THE_WAY) {
            step();
        }
        finishAll();
        comesToItsEnd("at last");
        for (int mark = putBehind.size() - 1; mark >= 0 && calls < MOST_CALLS - CALLS_FOR_THE_END; mark--) {
            if (web().condition(mark) == COMPLETE) {
                marked(mark);
                goBack(mark);
            }
        }
        comesToItsEnd("gone back");
        mostCalls = Math.max(mostCalls, calls);
    }

    private BarrierMarks web() {
        calls++;
        return used;
    }

    private void makeWays() {
        for (int i = 0; i < 24; i++) {
            int from = random.nextInt(3) == 0 ? NONE : random.nextInt(tasks);
            int to = random.nextInt(tasks);
            if (!Check.told(() -> web().channel(from, to)).startsWith("throws")) {
                ways.add(new Way(from, to, new ArrayList<>()));
            }
        }
    }

    private void step() {
        int draw = random.nextInt(100);
        if (draw < 35) {
            send();
        } else if (draw < 37) {
            Check.told(() -> web().finish(random.nextInt(ways.size() + 1)));
        } else if (draw < 50) {
            mark();
        } else if (draw < 53) {
            Check.told(() -> web().giveUp(random.nextInt(putBehind.size() + 1)));
        } else if (draw < 56) {
            Check.told(() -> {
                web().fails(random.nextInt(tasks), putBehind.size() - 1);
                return "told";
            });
        } else if (draw < 59) {
            Check.told(() -> web().again(putBehind.size() - 1, random.nextInt(tasks)));
        } else if (draw < 65) {
            goBackSomewhere();
        } else {
            web().play(random.nextLong(), 1 + random.nextInt(80));
        }
    }

    private void send() {
        int channel = random.nextInt(ways.size() + 1);
        if (channel == ways.size() || ways.get(channel).rows().size() >= MOST_ROWS) {
            return;
        }
        long v = random.nextLong();
        if (!Check.told(() -> web().send(channel, v)).startsWith("throws")) {
            ways.get(channel).rows().add(v);
        }
    }

    private void mark() {
        int[] behind = ways.stream().mapToInt(way -> way.rows().size()).toArray();
        if (!Check.told(() -> web().mark()).startsWith("throws")) {
            putBehind.add(behind);
        }
    }

    private void goBackSomewhere() {
        int mark = random.nextInt(putBehind.size() + 1);
        if (mark < putBehind.size() && web().condition(mark) == COMPLETE) {
            goBack(mark);
        }
    }

    private void goBack(int mark) {
        int anew = 0;
        for (int i = 0; i < ways.size(); i++) {
            anew += ways.get(i).rows().size() - putBehind.get(mark)[i];
        }
        int want = anew;
        Check.due(name("rows that come anew from " + mark), want, () -> web().restore(mark));
        isAt(name("gone back to " + mark), putBehind.get(mark), (task) -> web().state(task), (task) -> web().task(task, 0));
        goneBack++;
        int ended = 0;
        for (int t = 0; t < tasks; t++) {
            ended += web().task(t, 1);
        }
        if (ended > 0 && ended < tasks) {
            goneBackWithEnded++;
        }
    }

    private void finishAll() {
        for (int i = 0; i < ways.size(); i++) {
            int channel = i;
            Check.told(() -> web().finish(channel));
        }
    }

    private void comesToItsEnd(String when) {
        for (int i = 0; i < MOST_PLAYS && !allHaveEnded(); i++) {
            web().play(random.nextLong(), 2000);
        }
        Check.due(name(when + ", all have ended"), true, this::allHaveEnded);
        int[] all = ways.stream().mapToInt(way -> way.rows().size()).toArray();
        isAt(name(when), all, (task) -> web().state(task), (task) -> web().task(task, 0));
        for (int i = 0; i < MOST_PLAYS && web().told(2) > 0; i++) {
            web().play(random.nextLong(), 2000);
        }
        Check.due(name(when + ", no mark is left begun"), 0, () -> web().told(3));
    }

    private boolean allHaveEnded() {
        for (int t = 0; t < tasks; t++) {
            int task = t;
            boolean hasWay = ways.stream().anyMatch(way -> way.to() == task);
            if (hasWay && web().task(task, 1) == 0) {
                return false;
            }
        }
        return true;
    }

    private void marked(int mark) {
        Check.due(name("exact " + mark), true, () -> web().exact(mark));
        isAt(name("kept for " + mark), putBehind.get(mark), (task) -> web().kept(mark, task),
            (task) -> web().keptRows(mark, task));
    }

    private interface Ask {
        long of(int task);
    }

    /** Each task has taken what the first rows of the sources, so many of each, come to. */
    private void isAt(String what, int[] rowsOfEach, Ask sum, Ask rows) {
        long[] sums = new long[tasks];
        long[] counts = new long[tasks];
        for (int i = 0; i < ways.size(); i++) {
            for (long v : ways.get(i).rows().subList(0, rowsOfEach[i])) {
                carry(ways.get(i).to(), v, sums, counts);
            }
        }
        for (int t = 0; t < tasks; t++) {
            int task = t;
            Check.due(what + ", sum of " + t, sums[t], () -> sum.of(task));
            Check.due(what + ", rows of " + t, counts[t], () -> rows.of(task));
        }
    }

    private void carry(int task, long v, long[] sums, long[] counts) {
        sums[task] += v;
        counts[task]++;
        for (Way way : ways) {
            if (way.from() == task) {
                carry(way.to(), 3 * v + task, sums, counts);
            }
        }
    }

    private String name(String what) {
        return "run " + run + ": " + what;
    }
}
