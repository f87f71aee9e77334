/** The boundaries of promises 8 to 11: giveUp, fails, again, restore. */
public final class MarkEdgeTest {
    private static final int NONE = BarrierMarks.NONE;
    private static final int LEAST = Integer.MIN_VALUE;
    private static final int MOST = Integer.MAX_VALUE;
    private static final String BOUNDS = Check.BOUNDS;
    private static final String STATE = Check.STATE;
    // Task 0 has kept for mark 0, task 1 has not.
    private static final Past HALF_KEPT = Past.chain(2).marks(1).turns(0, 2);

    public static void main(String[] args) {
        giveUpBounds();
        giveUpNotBegun();
        giveUpAcks();
        failsBounds();
        failsNotBegun();
        failsWhenKept();
        failsToldTwice();
        failsForThatMarkAndTask();
        failsInsteadOfKeeping();
        failsAndAllOfItGoes();
        failsWithoutCredit();
        failsNotWhenItEnds();
        againBounds();
        againNotBegun();
        againNotKept();
        againHowManyWait();
        againTwoHundred();
        firstAcksNeedNoRoom();
        acksAsManyAsCanWait();
        acksRound();
        restoreBounds();
        restoreNotComplete();
        restoreStates();
        restoreChannels();
        restoreEndedTasks();
        restoreEndedChannels();
        restorePositions();
        restoreMarksAndAcks();
        restoreLooksFromLeast();
        restoreRowsAnew();
        restoreToEither();
        Check.end("MarkEdgeTest");
    }

    private static Object fails(BarrierMarks b, int task, int mark) {
        b.fails(task, mark);
        return "told";
    }

    private static void giveUpBounds() {
        Edge.at("8: IndexOutOfBounds: no marks", Past.chain(1)).refuses(BOUNDS, b -> b.giveUp(0));
        Edge.at("8: IndexOutOfBounds", Past.chain(1).marks(2))
            .answers(0, b -> b.giveUp(0))
            .answers(0, b -> b.giveUp(1))
            .refuses(BOUNDS, b -> b.giveUp(2))
            .refuses(BOUNDS, b -> b.giveUp(NONE))
            .refuses(BOUNDS, b -> b.giveUp(MOST))
            .refuses(BOUNDS, b -> b.giveUp(LEAST));
        Edge.at("8: IndexOutOfBounds: none behind forty", Past.chain(1).marksGivenUp(39).marks(1))
            .answers(0, b -> b.giveUp(39))
            .refuses(BOUNDS, b -> b.giveUp(40));
    }

    private static void giveUpNotBegun() {
        Edge.at("8: IllegalState: given up already", Past.chain(2).marks(2).giveUp(0))
            .refuses(STATE, b -> b.giveUp(0))
            .answers(0, b -> b.giveUp(1));
        Edge.at("8: IllegalState: complete", Past.chain(2).complete()).refuses(STATE, b -> b.giveUp(0));
        Edge.at("8: IllegalState: a task failed", Past.chain(2).marks(1).fails(0, 0).turns(0, 2))
            .refuses(STATE, b -> b.giveUp(0));
        Edge.at("8: IllegalState: all went back", Past.chain(2).complete().marks(1).restore(0))
            .refuses(STATE, b -> b.giveUp(1));
    }

    private static void giveUpAcks() {
        Past kept = Past.chain(3).marks(1).turns(0, 2).turns(1, 2).turns(2, 2);
        Edge.at("8: acks wait, none was taken", kept).answers(0, b -> b.giveUp(0));
        Edge.at("8: one was taken", kept.keeper(1)).answers(1, b -> b.giveUp(0));
        Edge.at("8: all but one were taken", kept.keeper(2)).answers(2, b -> b.giveUp(0));
        Edge.at("8: one taken again is nothing", kept.keeper(1).giveUp(0).keeper(2))
            .leaves(1, b -> b.acknowledged(0));
        Edge.at("8: one was taken three times", Past.chain(3).marks(1).turns(0, 2).again(0, 0, 2).keeper(3))
            .answers(1, b -> b.giveUp(0));
        Edge.at("8: of its acks, not another's", Past.chain(2).marks(2).turns(0, 2).keeper(1))
            .answers(1, b -> b.giveUp(0))
            .answers(0, b -> b.giveUp(1));
        Edge.at("8: it is given up", Past.chain(2).marks(3).giveUp(1))
            .leaves(0, b -> b.condition(0))
            .leaves(2, b -> b.condition(1))
            .leaves(0, b -> b.condition(2))
            .leaves(2, b -> b.told(3));
    }

    private static void failsBounds() {
        Edge.at("9: IndexOutOfBounds: no marks", Past.chain(1)).refuses(BOUNDS, b -> fails(b, 0, 0));
        Edge.at("9: IndexOutOfBounds", Past.chain(2).marks(2))
            .answers("told", b -> fails(b, 0, 0))
            .answers("told", b -> fails(b, 1, 1))
            .refuses(BOUNDS, b -> fails(b, 2, 0))
            .refuses(BOUNDS, b -> fails(b, NONE, 0))
            .refuses(BOUNDS, b -> fails(b, MOST, 0))
            .refuses(BOUNDS, b -> fails(b, LEAST, 0))
            .refuses(BOUNDS, b -> fails(b, 0, 2))
            .refuses(BOUNDS, b -> fails(b, 0, -1))
            .refuses(BOUNDS, b -> fails(b, 0, MOST))
            .refuses(BOUNDS, b -> fails(b, 0, LEAST));
        Edge.at("9: the first of several: no task, and not begun", Past.chain(1).marks(1).giveUp(0))
            .refuses(BOUNDS, b -> fails(b, 1, 0))
            .refuses(STATE, b -> fails(b, 0, 0));
    }

    private static void failsNotBegun() {
        Edge.at("9: IllegalState: given up", Past.chain(2).marks(2).giveUp(0))
            .refuses(STATE, b -> fails(b, 0, 0))
            .answers("told", b -> fails(b, 0, 1));
        Edge.at("9: IllegalState: complete", Past.chain(2).complete()).refuses(STATE, b -> fails(b, 0, 0));
    }

    private static void failsWhenKept() {
        Edge.at("9: the task has all it needs to keep", Past.chain(2).marks(1).turns(0, 1))
            .answers("told", b -> fails(b, 0, 0));
        Edge.at("9: IllegalState: the task has kept", HALF_KEPT)
            .refuses(STATE, b -> fails(b, 0, 0))
            .answers("told", b -> fails(b, 1, 0));
        Edge.at("9: IllegalState: it kept at once, without a channel", Past.of(2, NONE, 0).marks(1))
            .refuses(STATE, b -> fails(b, 1, 0))
            .answers("told", b -> fails(b, 0, 0));
        Edge.at("9: IllegalState: it kept at once, having ended", Past.chain(2).finish(0).turns(0, 2).marks(1))
            .refuses(STATE, b -> fails(b, 0, 0))
            .answers("told", b -> fails(b, 1, 0));
    }

    private static void failsToldTwice() {
        Edge.at("9: IllegalState: was told so", Past.chain(2).marks(2).fails(0, 0))
            .refuses(STATE, b -> fails(b, 0, 0))
            .answers("told", b -> fails(b, 1, 0))
            .answers("told", b -> fails(b, 0, 1));
    }

    private static void failsForThatMarkAndTask() {
        Edge.at("9: for that mark alone", Past.chain(2).marks(3).fails(0, 1)).turns(0, "2425240");
        Edge.at("9: that task alone", Past.chain(2).marks(1).fails(1, 0)).turns(0, "240");
        Edge.at("9: that task, then", HALF_KEPT.fails(1, 0)).turns(1, "250");
        Edge.at("9: not for a later mark", Past.chain(1).marks(1).fails(0, 0).turns(0, 2).marks(1)).turns(0, "240");
    }

    private static void failsInsteadOfKeeping() {
        Past failed = Past.chain(2).rows(0, 1).marks(1).fails(0, 0).turns(0, 3);
        Edge.at("Terms: that is given up instead", failed)
            .leaves(2, b -> b.condition(0))
            .leaves(0, b -> b.told(3))
            .refuses(STATE, b -> b.kept(0, 0));
        Edge.at("Terms: no barrier", failed).leaves(1, b -> b.waiting(1)).leaves(0, b -> b.kind(1, 0));
        Edge.at("Terms: no ack", failed).leaves(0, b -> b.told(2));
        Edge.at("Terms: none is held for it", failed).leaves(NONE, b -> b.held(0));
        Edge.at("Terms: it goes on", failed.rows(0, 1)).turns(0, "10");
        Edge.at("Terms: not before it keeps", Past.fan(2).marks(1).fails(0, 0)).turns(0, "2250");
    }

    private static void failsAndAllOfItGoes() {
        // Task 0 has kept for both marks, task 1 has only to keep for the first.
        Past ahead = Past.join().marks(2).fails(1, 0).turns(0, 4).turns(1, 1);
        Edge.at("Terms: its barriers go from other channels", ahead.turns(1, 1))
            .leaves(1, b -> b.waiting(2))
            .leaves(1, b -> b.value(2, 0));
        Edge.at("Terms: a channel of another task was held", ahead.turns(2, 1)).leaves(0, b -> b.held(2));
        Edge.at("Terms: none is held for it, of another task", ahead.turns(2, 1).turns(1, 1))
            .leaves(NONE, b -> b.held(2))
            .turns(2, "20");
        Edge.at("Terms: the other mark goes on", ahead.turns(1, 1).plays())
            .leaves(2, b -> b.condition(0))
            .leaves(1, b -> b.condition(1));
        Edge.at("Terms: an ack that was sent is nothing then", ahead.turns(1, 1).keeper(1))
            .leaves(0, b -> b.acknowledged(0));
    }

    private static void failsWithoutCredit() {
        Past full = Past.chain(2).rows(0, 8).marks(1).fails(0, 0).turns(0, 9);
        Edge.at("9: when it keeps: without a credit it does not", full)
            .leaves(0, b -> b.turn(0))
            .leaves(0, b -> b.condition(0))
            .leaves(0, b -> b.held(0));
        Edge.at("9: when it keeps: with a credit it does", full.turns(1, 1)).turns(0, "50");
    }

    private static void failsNotWhenItEnds() {
        Past last = Past.chain(1).finish(0).turns(0, 1).marks(2).fails(0, 0).fails(0, 1);
        Edge.at("9: not when it ends", last).turns(0, "60");
        Edge.at("9: not when it ends: it has kept", last.turns(0, 1))
            .leaves(0, b -> b.condition(0))
            .leaves(0, b -> b.kept(1, 0))
            .turns(NONE, "880");
        Edge.at("9: one is held, the other ended: it keeps, and fails",
            Past.fan(2).finish(0).turns(0, 1).marks(1).fails(0, 0)).turns(0, "250");
    }

    private static void againBounds() {
        Edge.at("10: IndexOutOfBounds: no marks", Past.chain(1)).refuses(BOUNDS, b -> b.again(0, 0));
        Edge.at("10: IndexOutOfBounds", Past.of(2).marks(2))
            .answers(5, b -> b.again(0, 0))
            .answers(5, b -> b.again(1, 1))
            .refuses(BOUNDS, b -> b.again(2, 0))
            .refuses(BOUNDS, b -> b.again(-1, 0))
            .refuses(BOUNDS, b -> b.again(MOST, 0))
            .refuses(BOUNDS, b -> b.again(LEAST, 0))
            .refuses(BOUNDS, b -> b.again(0, 2))
            .refuses(BOUNDS, b -> b.again(0, NONE))
            .refuses(BOUNDS, b -> b.again(0, MOST))
            .refuses(BOUNDS, b -> b.again(0, LEAST));
        Edge.at("10: the first of several: no task, and not begun", Past.chain(1).marks(1).giveUp(0))
            .refuses(BOUNDS, b -> b.again(0, 1))
            .refuses(STATE, b -> b.again(0, 0));
    }

    private static void againNotBegun() {
        Edge.at("10: IllegalState: given up", HALF_KEPT.giveUp(0)).refuses(STATE, b -> b.again(0, 0));
        Edge.at("10: IllegalState: complete", Past.chain(2).complete()).refuses(STATE, b -> b.again(0, 0));
    }

    private static void againNotKept() {
        Edge.at("10: IllegalState: the task has not kept", Past.chain(2).marks(1)).refuses(STATE, b -> b.again(0, 0));
        Edge.at("10: IllegalState: the task has all it needs to keep", Past.chain(2).marks(1).turns(0, 1))
            .refuses(STATE, b -> b.again(0, 0));
        Edge.at("10: the task has kept", HALF_KEPT)
            .answers(2, b -> b.again(0, 0))
            .refuses(STATE, b -> b.again(0, 1));
        Edge.at("10: the task has kept for that mark alone", Past.chain(2).marks(2).turns(0, 2))
            .answers(2, b -> b.again(0, 0))
            .refuses(STATE, b -> b.again(1, 0));
        Edge.at("10: the task kept since it ends", Past.chain(2).finish(0).turns(0, 1).marks(1).turns(0, 1))
            .answers(2, b -> b.again(0, 0));
    }

    private static void againHowManyWait() {
        Edge.at("10: none waited", HALF_KEPT.keeper(1)).answers(1, b -> b.again(0, 0));
        Edge.at("10: acks of other marks wait too", Past.chain(2).marks(2).turns(0, 4).giveUp(1))
            .answers(3, b -> b.again(0, 0));
        Edge.at("10: it is sent behind all", Past.chain(1).marks(2).turns(0, 2).again(0, 0, 1).turns(0, 2))
            .turns(NONE, "8780");
    }

    private static void againTwoHundred() {
        Edge.at("10: 199 wait", HALF_KEPT.again(0, 0, 198)).answers(200, b -> b.again(0, 0));
        Edge.at("10: IllegalState: 200 wait", HALF_KEPT.again(0, 0, 199))
            .leaves(200, b -> b.told(2))
            .refuses(STATE, b -> b.again(0, 0));
        Edge.at("10: IllegalState: 200 wait, of two marks", Past.chain(2).marks(2).turns(0, 4).again(0, 0, 198))
            .refuses(STATE, b -> b.again(1, 0));
        Edge.at("10: IllegalState: 200 wait, some of a mark given up",
            Past.chain(2).marks(2).turns(0, 4).again(0, 0, 198).giveUp(0))
            .refuses(STATE, b -> b.again(1, 0));
        Edge.at("10: 200 waited, one was taken", HALF_KEPT.again(0, 0, 199).keeper(1))
            .answers(200, b -> b.again(0, 0));
        Edge.at("10: the first of several: 200 wait, and no task", HALF_KEPT.again(0, 0, 199))
            .refuses(BOUNDS, b -> b.again(0, 2))
            .refuses(BOUNDS, b -> b.again(1, 0));
    }

    private static void firstAcksNeedNoRoom() {
        Past more = HALF_KEPT.again(0, 0, 199).turns(1, 2);
        Edge.at("10: a task keeps though 200 wait", more)
            .leaves(201, b -> b.told(2))
            .leaves(0, b -> b.kept(0, 1))
            .refuses(STATE, b -> b.again(0, 1));
        Edge.at("10: IllegalState: 201 waited, one was taken", more.keeper(1)).refuses(STATE, b -> b.again(0, 1));
        Edge.at("10: 201 waited, two were taken", more.keeper(2)).answers(200, b -> b.again(0, 1));
        Edge.at("10: the one behind 200 makes the mark complete", more.keeper(200))
            .leaves(0, b -> b.condition(0))
            .turns(NONE, "80");
        Edge.at("10: a mark begins though 200 wait", Past.of(8).marks(1).again(0, 7, 192).marks(2))
            .leaves(216, b -> b.told(2))
            .turns(NONE, "77777778" + "7".repeat(192) + "77777778" + "77777778" + "0");
    }

    /** 200 and those of 39 marks more. */
    private static void acksAsManyAsCanWait() {
        Past most = Past.of(8).marks(1).again(0, 7, 192);
        for (int m = 0; m < 39; m++) {
            most = most.giveUp(m).marks(1);
        }
        Edge.at("10: acks wait, as many as there can be", most)
            .leaves(512, b -> b.told(2))
            .leaves(0, b -> b.acknowledged(39))
            .refuses(STATE, b -> b.again(39, 0));
        Edge.at("10: the last of them are taken too", most.plays(3))
            .leaves(0, b -> b.told(2))
            .leaves(8, b -> b.acknowledged(39))
            .leaves(1, b -> b.condition(39))
            .leaves(2, b -> b.condition(38));
    }

    /** Six hundred acks, of which never more than 200 wait. */
    private static void acksRound() {
        Past past = Past.of(8).marksGivenUp(20).marks(1).again(20, 0, 32).plays(2);
        past = past.marksGivenUp(15).marks(1).again(36, 0, 72).plays(2);
        Past last = past.marksGivenUp(1).marks(1).again(38, 0, 140).marks(1);
        Edge.at("Terms: acks wait in a row, however many came before", last)
            .leaves(164, b -> b.told(2))
            .turns(NONE, "7777777777777778" + "7".repeat(140) + "77777778" + "0");
    }

    private static void restoreBounds() {
        Edge.at("11: IndexOutOfBounds: no marks", Past.chain(1)).refuses(BOUNDS, b -> b.restore(0));
        Edge.at("11: IndexOutOfBounds", Past.chain(1).complete().complete())
            .answers(0, b -> b.restore(0))
            .answers(0, b -> b.restore(1))
            .refuses(BOUNDS, b -> b.restore(2))
            .refuses(BOUNDS, b -> b.restore(NONE))
            .refuses(BOUNDS, b -> b.restore(MOST))
            .refuses(BOUNDS, b -> b.restore(LEAST));
    }

    private static void restoreNotComplete() {
        Past all = Past.chain(2).rows(0, 2).marks(1).turns(0, 4).turns(1, 4);
        Edge.at("11: IllegalState: begun", Past.chain(2).marks(1)).refuses(STATE, b -> b.restore(0));
        Edge.at("11: IllegalState: all but one ack was taken", all.keeper(1)).refuses(STATE, b -> b.restore(0));
        Edge.at("11: all acks were taken", all.keeper(2)).answers(0, b -> b.restore(0));
        Edge.at("11: IllegalState: given up", all.keeper(1).giveUp(0)).refuses(STATE, b -> b.restore(0));
        Edge.at("11: IllegalState: given up, though another is complete", Past.chain(2).complete().marksGivenUp(1))
            .refuses(STATE, b -> b.restore(1))
            .answers(0, b -> b.restore(0));
    }

    private static void restoreStates() {
        Past wide = Past.chain(2).row(0, Long.MAX_VALUE).row(0, 1).complete();
        Edge.at("11: the state that it kept", wide.rows(0, 3).plays().restore(0))
            .leaves(Long.MIN_VALUE, b -> b.state(0))
            .leaves(2, b -> b.task(0, 0))
            .leaves(3 * Long.MIN_VALUE, b -> b.state(1))
            .leaves(2, b -> b.task(1, 0));
        Edge.at("11: the state that it kept, with no row", Past.chain(2).complete().rows(0, 3).plays().restore(0))
            .leaves(0, b -> b.state(0))
            .leaves(0, b -> b.task(0, 0))
            .leaves(0, b -> b.task(1, 0));
        Edge.at("11: a task without a channel", Past.of(2, NONE, 0).complete().rows(0, 3).plays().restore(0))
            .leaves(0, b -> b.state(1))
            .leaves(0, b -> b.turn(1));
        Edge.at("11: at the mark itself all stays", wide).answers(Shown.tasks(wide.get()), b -> {
            b.restore(0);
            return Shown.tasks(b);
        });
    }

    private static void restoreChannels() {
        Past full = Past.chain(2).complete().rows(0, 8).finish(0).turns(0, 10);
        Edge.at("11: nine things waited", full).leaves(9, b -> b.waiting(1));
        Edge.at("11: channels between tasks are empty", full.restore(0))
            .leaves(0, b -> b.waiting(1))
            .refuses(BOUNDS, b -> b.kind(1, 0))
            .leaves(8, b -> b.waiting(0))
            .leaves(0, b -> b.turn(1))
            .turns(0, "11111111360");
        Past held = Past.join().complete().marks(1).turns(0, 2).turns(2, 1).turns(1, 1);
        Edge.at("11: channels were held", held).leaves(1, b -> b.held(1)).leaves(1, b -> b.held(2));
        Edge.at("11: none is held", held.restore(0))
            .leaves(NONE, b -> b.held(0))
            .leaves(NONE, b -> b.held(1))
            .leaves(NONE, b -> b.held(2))
            .leaves(NONE, b -> b.held(3));
    }

    private static void restoreEndedTasks() {
        Past oneEnded = Past.join().row(0, 5).finish(0).turns(0, 3).turns(2, 2).complete();
        Past allEnded = oneEnded.finish(1).plays();
        Edge.at("11: it has ended, if it had when it kept", allEnded.restore(0))
            .leaves(1, b -> b.task(0, 1))
            .leaves(0, b -> b.turn(0));
        Edge.at("11: it has not ended, if it had not", allEnded.restore(0))
            .leaves(0, b -> b.task(1, 1))
            .leaves(0, b -> b.task(2, 1))
            .turns(1, "360");
        Past endedBegun = Past.chain(1).finish(0).turns(0, 1).marks(1).turns(0, 1).keeper(1);
        Edge.at("11: it has ended, if it kept since it ends", endedBegun.restore(0))
            .leaves(1, b -> b.task(0, 1))
            .leaves(0, b -> b.turn(0));
        Edge.at("11: one that has ended keeps at once again", endedBegun.restore(0).marks(1)).turns(NONE, "80");
    }

    private static void restoreEndedChannels() {
        Past oneEnded = Past.join().row(0, 5).finish(0).turns(0, 3).turns(2, 2).complete();
        Edge.at("11: those that lead from tasks that have ended are ended", oneEnded.restore(0).finish(1).turns(1, 2))
            .turns(2, "360");
        // Task 0 has ended, but its end was not taken when the mark was complete.
        Past endNotTaken = Past.join().finish(0).turns(0, 2).marks(1).turns(1, 2).turns(2, 3).keeper(3);
        Edge.at("11: no end comes anew from them", endNotTaken.restore(0)).leaves(0, b -> b.turn(2));
        Past endTaken = Past.fan(2).finish(0).turns(0, 1).complete();
        Edge.at("11: no others: an end that was taken comes anew", endTaken.restore(0)).turns(0, "30");
        Edge.at("11: no others: nothing else comes", endTaken.restore(0).rows(1, 1)).turns(0, "310");
        Past endedAll = Past.chain(2).finish(0).plays().complete();
        Edge.at("11: those that lead to tasks that have ended are ended", endedAll.restore(0).plays())
            .leaves(1, b -> b.task(0, 1))
            .leaves(1, b -> b.task(1, 1))
            .leaves(0, b -> b.turn(0))
            .leaves(0, b -> b.turn(1));
        Edge.at("11: ended before, and not any more", Past.chain(1).complete().finish(0).turns(0, 2).restore(0))
            .turns(0, "360");
    }

    private static void restorePositions() {
        Edge.at("11: stands behind its barrier, behind no row",
            Past.chain(1).complete().rows(0, 200).plays().restore(0))
            .leaves(200, b -> b.waiting(0))
            .turns(0, "11");
        Edge.at("11: stands behind its barrier, behind 200 rows", Past.chain(1).rows(0, 200).complete().restore(0))
            .leaves(0, b -> b.waiting(0))
            .leaves(0, b -> b.turn(0));
        Edge.at("11: stands behind its barrier, each source",
            Past.fan(2).rows(0, 2).rows(1, 1).complete().rows(0, 1).rows(1, 3).plays().restore(0))
            .leaves(1, b -> b.waiting(0))
            .leaves(3, b -> b.waiting(1));
        Edge.at("11: behind its barrier: that does not come again", Past.chain(1).complete().restore(0))
            .leaves(0, b -> b.turn(0));
    }

    private static void restoreMarksAndAcks() {
        Past three = Past.chain(2).complete().rows(0, 1).marks(3).turns(0, 5);
        Edge.at("11: three are begun, and acks wait", three).leaves(3, b -> b.told(3)).leaves(2, b -> b.told(2));
        Edge.at("11: marks that are begun are given up", three.restore(0))
            .leaves(1, b -> b.condition(0))
            .leaves(2, b -> b.condition(1))
            .leaves(2, b -> b.condition(2))
            .leaves(2, b -> b.condition(3))
            .leaves(0, b -> b.told(3))
            .turns(0, "10");
        Edge.at("11: no ack waits", three.restore(0)).leaves(0, b -> b.told(2)).leaves(0, b -> b.turn(NONE));
        Edge.at("11: 200 acks waited", Past.chain(2).complete().marks(1).turns(0, 2).again(1, 0, 199).restore(0))
            .leaves(0, b -> b.told(2));
        Edge.at("11: marks that are complete stay so", Past.chain(2).complete().complete().restore(0))
            .leaves(1, b -> b.condition(1))
            .leaves(2, b -> b.acknowledged(1));
        Edge.at("11: who fails is told anew", Past.chain(1).complete().marks(1).fails(0, 1).restore(0).marks(1))
            .turns(0, "240");
    }

    private static void restoreLooksFromLeast() {
        Past mid = Past.fan(3).complete().row(0, 1).row(0, 2).row(1, 10).row(2, 100);
        Edge.at("11: it would look at the second", mid.turns(0, 2)).leaves(11, b -> b.state(0));
        Edge.at("11: looks from its least channel on", mid.turns(0, 1).restore(0).turns(0, 1))
            .leaves(1, b -> b.state(0));
        Edge.at("11: looks from its least channel on, then the next", mid.turns(0, 2).restore(0).turns(0, 2))
            .leaves(11, b -> b.state(0));
    }

    private static void restoreRowsAnew() {
        Edge.at("11: no row comes anew", Past.chain(2).rows(0, 2).complete()).answers(0, b -> b.restore(0));
        Edge.at("11: one row comes anew", Past.chain(2).complete().rows(0, 1).plays()).answers(1, b -> b.restore(0));
        Edge.at("11: 200 rows come anew", Past.chain(2).complete().rows(0, 200).plays())
            .answers(200, b -> b.restore(0));
        Edge.at("11: of all sources", Past.fan(2).complete().rows(0, 2).rows(1, 3).plays())
            .answers(5, b -> b.restore(0));
        Edge.at("11: rows of sources, not of channels", Past.chain(3).complete().rows(0, 2).plays())
            .answers(2, b -> b.restore(0));
        Edge.at("11: rows that will come, taken or not", Past.chain(1).complete().rows(0, 3).turns(0, 1))
            .answers(3, b -> b.restore(0));
        Edge.at("11: an end is no row", Past.chain(1).complete().rows(0, 1).finish(0).plays())
            .answers(1, b -> b.restore(0));
    }

    private static void restoreToEither() {
        Past two = Past.chain(2).rows(0, 1).complete().rows(0, 2).complete().rows(0, 3).plays();
        Edge.at("11: back to the latest", two).answers(3, b -> b.restore(1));
        Edge.at("11: back to the first", two).answers(5, b -> b.restore(0));
        Edge.at("11: back twice", two.restore(0)).leaves(5, b -> b.restore(0));
        Edge.at("11: on from the first to the latest", two.restore(0).restore(1))
            .leaves(4, b -> b.state(0))
            .leaves(3, b -> b.task(1, 0))
            .leaves(3, b -> b.waiting(0));
    }
}
