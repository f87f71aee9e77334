/** The boundaries of promise 6, and of the turns that the document's terms tell. */
public final class TurnEdgeTest {
    private static final int NONE = BarrierMarks.NONE;
    private static final String BOUNDS = Check.BOUNDS;
    private static final String STATE = Check.STATE;
    // Task 0 has the sources 0 and 1, and channel 2 leads from it.
    private static final Past TWO_IN = Past.of(2, NONE, 0, NONE, 0, 0, 1);
    // Task 0 has the source 0, and channels 1 and 2 lead from it.
    private static final Past TWO_OUT = Past.of(3, NONE, 0, 0, 1, 0, 2);

    public static void main(String[] args) {
        bounds();
        nothingToTake();
        heldBack();
        ended();
        fromTheLeastAtFirst();
        onAndRound();
        inTheOrderOfNumbers();
        heldAndEndedArePassedOver();
        sumsWrap();
        rowsWrap();
        eightCredits();
        oneChannelWithoutCredit();
        looksNoFurther();
        takenWithoutCredit();
        barriersNeedCredits();
        keepNeedsCredit();
        endNeedsNone();
        keepsWhenAllAreHeldOrEnded();
        keepIsTheTurn();
        endsWhenAllAreEnded();
        keepsWhenItEnds();
        barriersGoAtOnce();
        heldEndsAtOnce();
        keeperTakesTheFirst();
        completeByTheLast();
        acksThatAreNothing();
        Check.end("TurnEdgeTest");
    }

    private static void bounds() {
        Edge.at("6: IndexOutOfBounds", Past.chain(3))
            .leaves(0, b -> b.turn(0))
            .leaves(0, b -> b.turn(2))
            .leaves(0, b -> b.turn(NONE))
            .refuses(BOUNDS, b -> b.turn(3))
            .refuses(BOUNDS, b -> b.turn(-2))
            .refuses(BOUNDS, b -> b.turn(Integer.MAX_VALUE))
            .refuses(BOUNDS, b -> b.turn(Integer.MIN_VALUE));
        Edge.at("6: IndexOutOfBounds, of eight", Past.chain(8).rows(0, 1))
            .answers(1, b -> b.turn(0))
            .leaves(0, b -> b.turn(7))
            .refuses(BOUNDS, b -> b.turn(8));
    }

    private static void nothingToTake() {
        Edge.at("6: 0 nothing: no channel into it", Past.of(2, NONE, 0).rows(0, 1))
            .leaves(0, b -> b.turn(1))
            .answers(1, b -> b.turn(0));
        Edge.at("6: 0 nothing: an empty source", Past.chain(1)).leaves(0, b -> b.turn(0));
        Edge.at("6: 0 nothing: all rows were taken", Past.chain(1).rows(0, 2)).turns(0, "110");
        Edge.at("6: 0 nothing: an empty channel", Past.chain(2).rows(0, 1)).leaves(0, b -> b.turn(1)).turns(0, "10");
        Edge.at("6: 0 nothing: no ack waits", Past.chain(1).marks(1))
            .leaves(0, b -> b.turn(NONE))
            .turns(0, "240");
        Edge.at("Terms: if it has channels: a task without any never ends", Past.of(1).complete())
            .leaves(0, b -> b.turn(0))
            .leaves(0, b -> b.task(0, 1));
    }

    private static void heldBack() {
        Past one = Past.join().marks(1).rows(0, 1).turns(0, 3).turns(2, 1);
        Edge.at("Terms: the first that is not held: none", one)
            .leaves(0, b -> b.held(2))
            .leaves(1, b -> b.waiting(2))
            .leaves(0, b -> b.turn(2));
        Edge.at("Terms: the first that is not held: the other", one.turns(1, 2)).turns(2, "2410");
    }

    private static void ended() {
        Edge.at("Terms: when it has ended, it does nothing", Past.chain(2).finish(0).turns(0, 2))
            .leaves(1, b -> b.task(0, 1))
            .leaves(0, b -> b.turn(0));
        Edge.at("Terms: when it has ended, a mark brings it no barrier", Past.chain(2).finish(0).turns(0, 2).marks(1))
            .leaves(0, b -> b.turn(0));
    }

    private static void fromTheLeastAtFirst() {
        Past three = Past.fan(3).row(2, 100).row(1, 10).row(0, 1);
        Edge.at("Terms: at first from the least", three.turns(0, 1)).leaves(1, b -> b.state(0));
        Edge.at("Terms: then from the one behind", three.turns(0, 2)).leaves(11, b -> b.state(0));
        Edge.at("Terms: then the last", three.turns(0, 3)).leaves(111, b -> b.state(0));
    }

    private static void onAndRound() {
        Edge.at("Terms: behind the last comes the least",
            Past.fan(3).row(2, 100).turns(0, 1).row(0, 1).row(2, 200).turns(0, 1))
            .leaves(101, b -> b.state(0));
        Edge.at("Terms: from the one behind the first",
            Past.fan(3).row(0, 1).turns(0, 1).row(0, 2).row(1, 10).turns(0, 1))
            .leaves(11, b -> b.state(0));
        Edge.at("Terms: round to the one itself", Past.fan(3).rows(1, 3)).turns(0, "1110");
        Edge.at("Terms: the least is not passed over on the way round",
            Past.fan(3).row(1, 10).turns(0, 1).row(0, 1).row(1, 20).turns(0, 1))
            .leaves(11, b -> b.state(0));
        Edge.at("Terms: a barrier was taken latest",
            Past.fan(2).marks(1).row(0, 1).row(1, 10).turns(0, 1).giveUp(0).turns(0, 1))
            .leaves(10, b -> b.state(0));
        Edge.at("Terms: an end was taken latest",
            Past.fan(3).row(0, 1).finish(1).turns(0, 2).row(0, 2).row(2, 100).turns(0, 1))
            .leaves(101, b -> b.state(0));
        Edge.at("Terms: of sixteen, behind the last",
            Past.fan(16).row(15, 100).turns(0, 1).row(15, 200).row(0, 1).turns(0, 1))
            .leaves(101, b -> b.state(0));
    }

    private static void inTheOrderOfNumbers() {
        // Channel 2 leads from task 1, channel 3 from task 0.
        Past both = Past.of(3, NONE, 0, NONE, 1, 1, 2, 0, 2).row(0, 1).row(1, 5).turns(0, 1).turns(1, 1);
        Edge.at("Terms: in the order of their numbers", both.turns(2, 1)).leaves(16, b -> b.state(2));
        Edge.at("Terms: then the greater number", both.turns(2, 2)).leaves(19, b -> b.state(2));
    }

    private static void heldAndEndedArePassedOver() {
        Edge.at("Terms: what is held is passed over", Past.fan(2).row(1, 10).marks(1).row(0, 1)).turns(0, "212410");
        Edge.at("Terms: what has ended is passed over", Past.fan(2).finish(0).rows(1, 2)).turns(0, "3110");
    }

    private static void sumsWrap() {
        Edge.at("Terms: sum just inside", Past.chain(1).row(0, Long.MAX_VALUE - 1).row(0, 1).turns(0, 2))
            .leaves(Long.MAX_VALUE, b -> b.state(0));
        Edge.at("Terms: sum modulo 2^64, above", Past.chain(1).row(0, Long.MAX_VALUE).row(0, 1).turns(0, 2))
            .leaves(Long.MIN_VALUE, b -> b.state(0));
        Edge.at("Terms: sum modulo 2^64, below", Past.chain(1).row(0, Long.MIN_VALUE).row(0, -1).turns(0, 2))
            .leaves(Long.MAX_VALUE, b -> b.state(0));
        Edge.at("Terms: sum modulo 2^64, all around",
            Past.chain(1).row(0, Long.MIN_VALUE).row(0, Long.MIN_VALUE).turns(0, 2))
            .leaves(0, b -> b.state(0))
            .leaves(2, b -> b.task(0, 0));
    }

    private static void rowsWrap() {
        // A third of 2^63, so that three times it is just below.
        long third = 3074457345618258602L;
        Past last = Past.of(8, NONE, 7, 7, 0);
        Edge.at("Terms: 3 v + t just inside", Past.chain(2).row(0, third).turns(0, 1))
            .leaves(Long.MAX_VALUE - 1, b -> b.value(1, 0));
        Edge.at("Terms: 3 v + t modulo 2^64", Past.chain(2).row(0, third + 1).turns(0, 1))
            .leaves(Long.MIN_VALUE + 1, b -> b.value(1, 0));
        Edge.at("Terms: 3 v + t by its t alone modulo 2^64", last.row(0, third).turns(7, 1))
            .leaves(Long.MIN_VALUE + 5, b -> b.value(1, 0));
        Edge.at("Terms: 3 v + t of the greatest row", last.row(0, Long.MAX_VALUE).turns(7, 1))
            .leaves(Long.MIN_VALUE + 4, b -> b.value(1, 0));
        Edge.at("Terms: 3 v + t of the least row", last.row(0, Long.MIN_VALUE).turns(7, 1))
            .leaves(Long.MIN_VALUE + 7, b -> b.value(1, 0));
        Edge.at("Terms: 3 v + t of no value", last.row(0, 0).turns(7, 1)).leaves(7, b -> b.value(1, 0));
    }

    private static void eightCredits() {
        Past rows = Past.chain(2).rows(0, 10);
        Edge.at("Terms: eight at most", rows).turns(0, "111111110");
        Edge.at("Terms: seven wait", rows.turns(0, 7)).leaves(7, b -> b.waiting(1)).answers(1, b -> b.turn(0));
        Edge.at("Terms: no credit, nothing is done", rows.turns(0, 8))
            .leaves(8, b -> b.waiting(1))
            .leaves(2, b -> b.waiting(0))
            .leaves(8, b -> b.task(0, 0))
            .leaves(0, b -> b.turn(0));
        Edge.at("Terms: a credit for each that is taken", rows.turns(0, 8).turns(1, 1)).turns(0, "10");
        Edge.at("Terms: two credits for two that are taken", rows.turns(0, 8).turns(1, 2)).turns(0, "110");
        Edge.at("Terms: the last task needs no credit", Past.chain(1).rows(0, 10)).turns(0, "11111111110");
    }

    private static void oneChannelWithoutCredit() {
        Past full = TWO_OUT.rows(0, 10).turns(0, 8);
        Edge.at("Terms: the first channel has no credit", full.turns(2, 3))
            .leaves(0, b -> b.turn(0))
            .leaves(5, b -> b.waiting(2));
        Edge.at("Terms: the last channel has no credit", full.turns(1, 3))
            .leaves(0, b -> b.turn(0))
            .leaves(5, b -> b.waiting(1));
        Edge.at("Terms: both have one", full.turns(1, 1).turns(2, 1)).turns(0, "10");
    }

    private static void looksNoFurther() {
        Past full = TWO_IN.rows(0, 8).turns(0, 8).row(1, 5);
        Edge.at("Terms: it looks no further, to an end", full.finish(0)).leaves(0, b -> b.turn(0));
        Edge.at("Terms: it looks no further, to a barrier", full.marks(1))
            .leaves(0, b -> b.turn(0))
            .leaves(NONE, b -> b.held(0));
        Edge.at("Terms: a row not taken is not the latest", full.row(0, 9).turns(0, 1).turns(1, 1).turns(0, 1))
            .leaves(36 + 5, b -> b.state(0));
    }

    private static void takenWithoutCredit() {
        Past full = TWO_IN.rows(1, 8).turns(0, 8);
        Edge.at("Terms: a barrier needs no credit", full.marks(1)).turns(0, "220");
        Edge.at("Terms: an end needs no credit", full.finish(0).row(1, 9)).turns(0, "30");
    }

    private static void barriersNeedCredits() {
        Past eight = Past.chain(2).rows(0, 6).marks(2).row(0, 7).turns(0, 10);
        Edge.at("Terms: rows and barriers, eight at most", Past.chain(2).rows(0, 6).marks(2).row(0, 7))
            .turns(0, "11111124240");
        Edge.at("Terms: rows and barriers wait", eight)
            .leaves(8, b -> b.waiting(1))
            .leaves(0, b -> b.turn(0));
        Edge.at("Terms: a barrier that goes leaves its credit", eight.giveUp(0))
            .leaves(7, b -> b.waiting(1))
            .turns(0, "10");
    }

    private static void keepNeedsCredit() {
        Past seven = Past.chain(2).rows(0, 7).marks(1).turns(0, 8);
        Edge.at("Terms: keeps with the last credit", seven).turns(0, "40");
        Edge.at("Terms: the barrier takes the last credit", seven.turns(0, 1)).leaves(8, b -> b.waiting(1));
        Past eight = Past.chain(2).rows(0, 8).marks(1).turns(0, 9);
        Edge.at("Terms: no credit, nothing is done in this turn", eight)
            .leaves(0, b -> b.turn(0))
            .leaves(0, b -> b.held(0))
            .leaves(0, b -> b.told(2))
            .refuses(STATE, b -> b.kept(0, 0));
        Edge.at("Terms: keeps when there is a credit", eight.turns(1, 1)).turns(0, "40");
        Past two = TWO_OUT.rows(0, 8).marks(1).turns(0, 9);
        Edge.at("Terms: one channel has no credit, nothing is done", two.turns(1, 1))
            .leaves(0, b -> b.turn(0))
            .leaves(7, b -> b.waiting(1));
        Edge.at("Terms: the other has no credit, nothing is done", two.turns(2, 1)).leaves(0, b -> b.turn(0));
        Edge.at("Terms: both have one, it keeps", two.turns(1, 1).turns(2, 1)).turns(0, "40");
    }

    private static void endNeedsNone() {
        Past eight = Past.chain(2).rows(0, 8).finish(0);
        Edge.at("Terms: an end needs none", eight).turns(0, "11111111360");
        Edge.at("Terms: an end behind eight", eight.turns(0, 10))
            .leaves(9, b -> b.waiting(1))
            .leaves(2, b -> b.kind(1, 8))
            .leaves(0, b -> b.value(1, 8))
            .refuses(BOUNDS, b -> b.kind(1, 9))
            .turns(1, "11111111360");
        Edge.at("Terms: each channel gets an end", TWO_OUT.finish(0).turns(0, 2))
            .leaves(2, b -> b.kind(1, 0))
            .leaves(2, b -> b.kind(2, 0))
            .leaves(1, b -> b.waiting(1))
            .leaves(1, b -> b.waiting(2));
    }

    private static void keepsWhenAllAreHeldOrEnded() {
        Edge.at("Terms: all are held", Past.fan(3).marks(1)).turns(0, "22240");
        Edge.at("Terms: one is held, the other neither", Past.join().marks(1).turns(0, 2).turns(2, 1))
            .leaves(0, b -> b.turn(2));
        Past endedBefore = Past.join().finish(1).turns(1, 2).turns(2, 1).marks(1).turns(0, 2);
        Edge.at("Terms: one ended, then the other is held", endedBefore).turns(2, "240");
        Past endedThen = Past.join().finish(1).turns(1, 2).marks(1).turns(0, 2);
        Edge.at("Terms: one is held, then the other ended", endedThen).turns(2, "2340");
        Edge.at("Terms: one is held, the other not yet ended", endedThen.turns(2, 1)).answers(3, b -> b.turn(2));
        Edge.at("Terms: then the last one ends", endedThen.turns(2, 3).finish(0).turns(0, 2)).turns(2, "360");
        Edge.at("Terms: it keeps its state as it is then", Past.chain(1).rows(0, 2).marks(1).rows(0, 5).turns(0, 7))
            .leaves(3, b -> b.kept(0, 0))
            .leaves(2, b -> b.keptRows(0, 0))
            .leaves(5, b -> b.task(0, 0));
    }

    private static void keepIsTheTurn() {
        Past held = Past.fan(2).marks(1).rows(0, 1).turns(0, 2);
        Edge.at("Terms: to keep is its turn", held).turns(0, "410");
        Edge.at("Terms: to keep takes no row", held.turns(0, 1))
            .leaves(0, b -> b.task(0, 0))
            .leaves(1, b -> b.waiting(0));
        Edge.at("Terms: none is held any more", held.turns(0, 1))
            .leaves(NONE, b -> b.held(0))
            .leaves(NONE, b -> b.held(1));
        Edge.at("Terms: each channel gets the barrier", TWO_OUT.marks(2).turns(0, 4))
            .leaves(1, b -> b.kind(1, 0))
            .leaves(1, b -> b.value(1, 1))
            .leaves(1, b -> b.kind(2, 0))
            .leaves(1, b -> b.value(2, 1))
            .leaves(2, b -> b.told(2));
    }

    private static void endsWhenAllAreEnded() {
        Edge.at("Terms: one of two is ended", Past.fan(2).finish(0)).turns(0, "30");
        Edge.at("Terms: all are ended", Past.fan(2).finish(0).finish(1)).turns(0, "3360");
        Edge.at("Terms: to end is a turn of its own", Past.fan(2).finish(0).finish(1).turns(0, 2))
            .leaves(0, b -> b.task(0, 1))
            .answers(6, b -> b.turn(0));
        Edge.at("Terms: it ends, the last one", Past.fan(2).finish(0).finish(1).turns(0, 3))
            .leaves(1, b -> b.task(0, 1))
            .leaves(0, b -> b.turn(0));
    }

    private static void keepsWhenItEnds() {
        Past last = Past.chain(1).rows(0, 2).finish(0).turns(0, 3);
        Edge.at("Terms: ends while no mark is begun", last.turns(0, 1)).leaves(0, b -> b.told(2));
        Edge.at("Terms: ends while one is begun", last.marks(1).turns(0, 1))
            .leaves(1, b -> b.told(2))
            .leaves(3, b -> b.kept(0, 0));
        Edge.at("Terms: ends while three are begun, the least first", last.marks(3).turns(0, 1))
            .leaves(3, b -> b.told(2))
            .turns(NONE, "8880");
        Edge.at("Terms: for which it has not kept", Past.chain(1).marks(1).finish(0).turns(0, 3).marks(1).turns(0, 1))
            .leaves(2, b -> b.told(2))
            .turns(NONE, "880");
        Edge.at("Terms: while marks are begun, not given up", last.marks(3).giveUp(1).turns(0, 1))
            .leaves(2, b -> b.told(2))
            .refuses(STATE, b -> b.kept(1, 0))
            .leaves(3, b -> b.kept(2, 0));
    }

    private static void barriersGoAtOnce() {
        // Row, barrier 0, barrier 1, row.
        Past line = Past.chain(2).row(0, 1).marks(2).row(0, 2).turns(0, 6);
        Edge.at("Terms: its barriers go from all channels, the first", line.giveUp(0))
            .leaves(3, b -> b.waiting(1))
            .leaves(3, b -> b.value(1, 0))
            .leaves(1, b -> b.kind(1, 1))
            .leaves(1, b -> b.value(1, 1))
            .leaves(6, b -> b.value(1, 2))
            .turns(1, "12410");
        Edge.at("Terms: its barriers go from all channels, the second", line.giveUp(1))
            .leaves(3, b -> b.waiting(1))
            .leaves(0, b -> b.value(1, 1))
            .leaves(6, b -> b.value(1, 2));
        Edge.at("Terms: its barriers go from all channels, both", line.giveUp(0).giveUp(1))
            .leaves(2, b -> b.waiting(1))
            .leaves(6, b -> b.value(1, 1))
            .turns(1, "110");
        Edge.at("Terms: its barriers go, not rows of its number",
            Past.chain(2).row(0, 0).marks(1).turns(0, 3).giveUp(0))
            .leaves(1, b -> b.waiting(1))
            .leaves(0, b -> b.kind(1, 0));
        Edge.at("Terms: its barriers go, not an end", Past.chain(2).marks(1).finish(0).turns(0, 4).giveUp(0))
            .leaves(1, b -> b.waiting(1))
            .leaves(2, b -> b.kind(1, 0));
        Edge.at("Terms: its barriers go from the sources", Past.fan(2).marks(1).turns(0, 1).giveUp(0))
            .leaves(0, b -> b.turn(0));
        Edge.at("Terms: others stay in the sources", Past.fan(2).marks(2).giveUp(0)).turns(0, "2240");
    }

    private static void heldEndsAtOnce() {
        Past held = Past.fan(2).marks(2).rows(0, 1).turns(0, 1);
        Edge.at("Terms: none is held for it", held.giveUp(0))
            .leaves(NONE, b -> b.held(0))
            .turns(0, "22410");
        Edge.at("Terms: it is held for the other", held.giveUp(1))
            .leaves(0, b -> b.held(0))
            .turns(0, "2410");
    }

    private static void keeperTakesTheFirst() {
        Past acks = Past.chain(1).marks(2).turns(0, 4);
        Edge.at("Terms: the keeper takes the first", acks.keeper(1))
            .leaves(1, b -> b.condition(0))
            .leaves(0, b -> b.condition(1))
            .leaves(1, b -> b.told(2));
        Edge.at("Terms: the keeper takes one by one", acks).turns(NONE, "880");
    }

    private static void completeByTheLast() {
        Past all = Past.chain(8).marks(1);
        for (int t = 0; t < 8; t++) {
            all = all.turns(t, 2);
        }
        Edge.at("Terms: complete when one of each task was taken", all).turns(NONE, "777777780");
        Edge.at("Terms: one of each but one was taken", all.keeper(7))
            .leaves(0, b -> b.condition(0))
            .leaves(7, b -> b.acknowledged(0))
            .leaves(1, b -> b.told(3));
        Edge.at("Terms: one of each was taken", all.keeper(8))
            .leaves(1, b -> b.condition(0))
            .leaves(8, b -> b.acknowledged(0))
            .leaves(0, b -> b.told(3));
        Edge.at("Terms: one task alone", Past.of(1).marks(1)).turns(NONE, "80");
    }

    private static void acksThatAreNothing() {
        Past twice = Past.chain(2).marks(1).turns(0, 2).again(0, 0, 1);
        Edge.at("Terms: one that was taken already is nothing", twice).turns(NONE, "770");
        Edge.at("Terms: two of one task, none of the other", twice.keeper(2))
            .leaves(0, b -> b.condition(0))
            .leaves(1, b -> b.acknowledged(0));
        Edge.at("Terms: of a mark that is complete is nothing", Past.chain(1).marks(1).turns(0, 2).again(0, 0, 1))
            .turns(NONE, "870");
        Past gone = Past.chain(1).marks(1).turns(0, 2).giveUp(0);
        Edge.at("Terms: of a mark that is given up is nothing", gone).turns(NONE, "70");
        Edge.at("Terms: of a mark that is given up does not count", gone.keeper(1))
            .leaves(2, b -> b.condition(0))
            .leaves(0, b -> b.acknowledged(0));
    }
}
