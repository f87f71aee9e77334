import java.math.BigInteger;

/** The boundaries of promise 7, its numbers reckoned without a wrap-around of their own. */
public final class PlayEdgeTest {
    private static final int NONE = BarrierMarks.NONE;
    private static final String ARGUMENT = Check.ARGUMENT;
    private static final BigInteger FACTOR = new BigInteger("6364136223846793005");
    private static final BigInteger STEP = new BigInteger("1442695040888963407");
    private static final BigInteger ALL = BigInteger.ONE.shiftLeft(64);
    private static final long[] SEEDS = {0, 1, 2, 3, -1, 33, 1L << 33, Long.MAX_VALUE, Long.MIN_VALUE};

    public static void main(String[] args) {
        turnsOutside();
        oneTurn();
        turnsAsTold();
        twoThousandTurns();
        rowsAlone();
        Check.end("PlayEdgeTest");
    }

    private static void turnsOutside() {
        Edge.at("7: IllegalArgument: turns 1 .. 2000", Past.chain(2).rows(0, 5).marks(1))
            .refuses(ARGUMENT, b -> b.play(1, 0))
            .refuses(ARGUMENT, b -> b.play(1, -1))
            .refuses(ARGUMENT, b -> b.play(1, 2001))
            .refuses(ARGUMENT, b -> b.play(1, Integer.MAX_VALUE))
            .refuses(ARGUMENT, b -> b.play(1, Integer.MIN_VALUE))
            .answers(10, b -> b.play(1, 2000));
        Edge.at("7: 2000 turns of nothing", Past.of(1)).leaves(0, b -> b.play(1, 2000)).leaves(0, b -> b.play(1, 1));
    }

    private static void oneTurn() {
        for (long seed : SEEDS) {
            int due = picks(seed, 1, 2, 0);
            Edge.at("7: one turn, seed " + seed, Past.chain(1).rows(0, 5)).answers(due, b -> b.play(seed, 1));
        }
    }

    private static void turnsAsTold() {
        for (int n = 1; n <= 8; n++) {
            for (long seed : SEEDS) {
                Past past = Past.chain(n).rows(0, 5).marks(1);
                BarrierMarks stepped = past.get();
                int rows = 0;
                for (int i = 1; i <= 100; i++) {
                    int who = pick(seed, i, n + 1);
                    rows += stepped.turn(who == n ? NONE : who) == 1 ? 1 : 0;
                }
                BarrierMarks played = past.get();
                int want = rows;
                String sentence = "7: the turn is that of the task, seed " + seed + ", " + n + " tasks";
                Check.due(sentence + ": rows", want, () -> played.play(seed, 100));
                Check.due(sentence + ": tasks", Shown.tasks(stepped), () -> Shown.tasks(played));
                Check.due(sentence + ": channels", Shown.channels(stepped), () -> Shown.channels(played));
            }
        }
    }

    /** More rows wait than the task has turns, so that each of its turns counts. */
    private static void twoThousandTurns() {
        Past past = Past.of(8, NONE, 7, NONE, 7).rows(0, 200).rows(1, 100);
        boolean lastTells = false;
        boolean nextTells = false;
        for (long seed = 0; seed < 20; seed++) {
            long each = seed;
            lastTells |= pick(seed, 2000, 9) == 7;
            nextTells |= pick(seed, 2001, 9) == 7;
            Edge.at("7: 2000 turns, seed " + seed, past).answers(picks(seed, 2000, 9, 7), b -> b.play(each, 2000));
        }
        boolean tells = lastTells && nextTells;
        Check.due("7: a turn too few or too many would show", true, () -> tells);
    }

    private static void rowsAlone() {
        Edge.at("7: rows were taken, no barriers or ends", Past.chain(2).marks(2).finish(0))
            .answers(0, b -> b.play(1, 2000));
        Edge.at("7: all went on, though no row did", Past.chain(2).marks(2).finish(0).plays())
            .leaves(1, b -> b.condition(1))
            .leaves(1, b -> b.task(1, 1));
        Edge.at("7: rows were taken, by all tasks", Past.chain(3).rows(0, 2)).answers(6, b -> b.play(1, 2000));
    }

    /** Whose the turn is: the first is turn 1. */
    private static int pick(long seed, int turn, int modulus) {
        BigInteger x = BigInteger.valueOf(seed).mod(ALL);
        for (int i = 0; i < turn; i++) {
            x = next(x);
        }
        return owner(x, modulus);
    }

    private static int picks(long seed, int turns, int modulus, int who) {
        BigInteger x = BigInteger.valueOf(seed).mod(ALL);
        int count = 0;
        for (int i = 0; i < turns; i++) {
            x = next(x);
            count += owner(x, modulus) == who ? 1 : 0;
        }
        return count;
    }

    private static BigInteger next(BigInteger x) {
        return FACTOR.multiply(x).add(STEP).mod(ALL);
    }

    private static int owner(BigInteger x, int modulus) {
        return x.shiftRight(33).mod(BigInteger.valueOf(modulus)).intValue();
    }
}
