/** The boundary cases that promises 8, 9, 10, 11, 13, 14 and 15 name, one test for each. */
public final class EndsBoundsTest {
    private static final Checks CHECKS = new Checks();

    public static void main(String[] args) {
        promise8NoSuchRegion();
        promise8ToldSoYet();
        promise8DoesNotGoOn();
        promise8Closed();
        promise8BeforeTheFirstStep();
        promise8BeforeTheLastStep();
        promise8RoundADecision();
        promise8NoTurnComes();
        promise9NoSuchRegion();
        promise9OnceAtEachEnd();
        promise9NotByBeingLeft();
        promise10NoSuchRegion();
        promise10EmptyUnits();
        promise10LargestUnit();
        promise10RoundADecision();
        promise10NotByOtherEnds();
        promise11Empty();
        promise11Closed();
        promise11OnceMore();
        promise11QuickUnitsRoundADecision();
        promise11QuickLargest();
        promise11SlowBetweenADecisionsSteps();
        promise11SlowToBeCancelledBetween();
        promise11SlowRoundThatOnlyEnds();
        promise11SlowRoundThatOnlyTakes();
        promise11SlowLongest();
        promise11TheScheduleIsEmptyThen();
        promise13NoSuchRegion();
        promise13EveryState();
        promise13FirstAndLastRegion();
        promise14Empty();
        promise14Largest();
        promise14ClosedAlready();
        promise14EndedOnesDoNotCount();
        promise14AllCallsThen();
        promise15Others();
        promise15FirstAndLastEvent();
        promise15Largest();
        promise15Closed();
        promise15OnlyPassedOver();
        CHECKS.finish();
    }

    private static int cancelled(RegionThreads x, int region) {
        return x.cancel(region) ? 1 : 0;
    }

    private static void promise8NoSuchRegion() {
        CHECKS.due("no regions: cancel(1)", new RegionThreads().cancel(1), false);
        for (int region : Checks.outside(1, 4)) {
            Twins.refused(CHECKS, "cancel(" + region + ")", Starts::busy, x -> cancelled(x, region), 0);
        }
        CHECKS.due("full: cancel(31)", Starts.regions(30, 1).cancel(31), false);
        CHECKS.due("full: cancel(30)", Starts.regions(30, 1).cancel(30), true);
        RegionThreads x = Starts.regions(1, 1);
        x.cancel(2);
        x.region(1, 0);
        CHECKS.due("a region that comes later wasn't told", x.cancel(2), true);
    }

    private static void promise8ToldSoYet() {
        Twins.refused(CHECKS, "told so yet: cancel(2)", Starts::busy, x -> cancelled(x, 2), 0);
        RegionThreads x = Starts.regions(2, 2);
        CHECKS.due("told", x.cancel(1), true);
        CHECKS.due("once more", x.cancel(1), false);
        CHECKS.due("another one wasn't", x.cancel(2), true);
    }

    private static void promise8DoesNotGoOn() {
        for (int state = 1; state <= 4; state++) {
            int ended = state;
            Twins.refused(CHECKS, "state " + state + ": cancel(1)", () -> Starts.inState(ended), x -> cancelled(x, 1), 0);
        }
    }

    private static void promise8Closed() {
        for (int region = 0; region <= 5; region++) {
            int number = region;
            Twins.refused(CHECKS, "closed: cancel(" + region + ")", Starts::closed, x -> cancelled(x, number), 0);
        }
    }

    private static void promise8BeforeTheFirstStep() {
        RegionThreads x = Starts.regions(1, 1);
        x.cancel(1);
        CHECKS.due("no step", Checks.turns(x, 1, 1), 0);
        CHECKS.due("cancelled", x.finished(1), 3);
        CHECKS.due("nothing to back out", x.backed(1), 0);
    }

    private static void promise8BeforeTheLastStep() {
        RegionThreads x = Starts.regions(1, 100);
        Checks.turns(x, 1, 99);
        x.cancel(1);
        CHECKS.due("not the last step", Checks.turns(x, 1, 1), 0);
        CHECKS.due("cancelled", x.finished(1), 3);
        CHECKS.due("99 are backed out", x.backed(1), 99);
    }

    private static void promise8RoundADecision() {
        int[] doneThen = {0, 1, 3, 3, 4, 5};
        int[] backedThen = {0, 1, 0, 0, 1, 2};
        for (int done = 0; done <= 5; done++) {
            RegionThreads x = Starts.decided(6, 2);
            Checks.turns(x, 1, done);
            x.cancel(1);
            Checks.turns(x, 1, 2);
            CHECKS.due("told behind " + done + ": state", x.finished(1), 3);
            CHECKS.due("told behind " + done + ": done", x.done(1), doneThen[done]);
            CHECKS.due("told behind " + done + ": backed", x.backed(1), backedThen[done]);
            CHECKS.due("told behind " + done + ": passed over", x.count(4), done == 2 ? 0 : 1);
        }
    }

    private static void promise8NoTurnComes() {
        RegionThreads x = Starts.regions(2, 2);
        x.cancel(1);
        x.run();
        Checks.turns(x, 2, 2);
        CHECKS.due("without a turn it goes on", x.finished(1), 0);
        CHECKS.due("and is left at once", x.shutdown(true), 0);
        CHECKS.due("left", x.finished(1), 4);
        CHECKS.due("not cleaned", x.cleaned(1), 0);
    }

    private static void promise9NoSuchRegion() {
        CHECKS.due("no regions: cleaned(1)", new RegionThreads().cleaned(1), -2);
        for (int region : Checks.outside(1, 4)) {
            Twins.refused(CHECKS, "cleaned(" + region + ")", Starts::busy, x -> x.cleaned(region), -2);
            CHECKS.due("closed: cleaned(" + region + ")", Starts.closed().cleaned(region), -2);
        }
        CHECKS.due("full: cleaned(31)", Starts.regions(30, 1).cleaned(31), -2);
        CHECKS.due("full: cleaned(30)", Starts.regions(30, 1).cleaned(30), 0);
    }

    private static void promise9OnceAtEachEnd() {
        for (int state = 1; state <= 3; state++) {
            RegionThreads x = Starts.inState(state);
            CHECKS.due("state " + state + ": cleaned(1)", x.cleaned(1), 1);
            Checks.turns(x, 1, 3);
            x.cancel(1);
            x.shutdown(false);
            x.shutdown(true);
            x.close();
            CHECKS.due("state " + state + ", whatever comes: cleaned(1)", x.cleaned(1), 1);
            CHECKS.due("state " + state + ", whatever comes: finished(1)", x.finished(1), state);
        }
    }

    private static void promise9NotByBeingLeft() {
        RegionThreads x = Starts.inState(4);
        Checks.turns(x, 1, 3);
        x.shutdown(false);
        CHECKS.due("left at once", x.cleaned(1), 0);
        for (int region = 1; region <= 4; region++) {
            CHECKS.due("left by close: cleaned(" + region + ")", Starts.closed().cleaned(region), 0);
        }
    }

    private static void promise10NoSuchRegion() {
        CHECKS.due("no regions: backed(1)", new RegionThreads().backed(1), -2);
        for (int region : Checks.outside(1, 4)) {
            Twins.refused(CHECKS, "backed(" + region + ")", Starts::busy, x -> x.backed(region), -2);
            CHECKS.due("closed: backed(" + region + ")", Starts.closed().backed(region), -2);
        }
        CHECKS.due("full: backed(31)", Starts.regions(30, 1).backed(31), -2);
        CHECKS.due("full: backed(30)", Starts.regions(30, 1).backed(30), 0);
    }

    private static void promise10EmptyUnits() {
        RegionThreads x = new RegionThreads();
        x.region(1, 1);
        Checks.turns(x, 1, 1);
        CHECKS.due("no step before the failing one", x.backed(1), 0);
        x.region(3, 3);
        x.decision(2, 1);
        Checks.turns(x, 2, 3);
        CHECKS.due("no step behind the end", x.backed(2), 0);
        CHECKS.due("it failed though", x.finished(2), 2);
    }

    private static void promise10LargestUnit() {
        RegionThreads x = new RegionThreads();
        x.region(100, 100);
        Checks.turns(x, 1, 100);
        CHECKS.due("from the first step on", x.backed(1), 99);
        x.region(100, 100);
        x.decision(2, 1);
        Checks.turns(x, 2, 100);
        CHECKS.due("behind the first decision", x.backed(2), 97);
        x.region(100, 100);
        x.decision(3, 99);
        Checks.turns(x, 3, 100);
        CHECKS.due("between the last two", x.backed(3), 99);
    }

    private static void promise10RoundADecision() {
        int[] backed = {0, 0, 1, 2, 0, 1, 2, 3};
        for (int failsAt = 1; failsAt <= 7; failsAt++) {
            RegionThreads x = new RegionThreads();
            x.region(7, failsAt);
            x.decision(1, 2);
            Checks.turns(x, 1, failsAt);
            CHECKS.due("fails at " + failsAt, x.backed(1), backed[failsAt]);
            CHECKS.due("they stay in the log", x.count(2), failsAt - 1);
        }
    }

    private static void promise10NotByOtherEnds() {
        CHECKS.due("done", Starts.inState(1).backed(1), 0);
        CHECKS.due("left at once", Starts.inState(4).backed(1), 0);
        CHECKS.due("left by close", Starts.closed().backed(4), 0);
        RegionThreads x = Starts.decided(3, 1);
        x.waits(1, 2, 0);
        x.shutdown(false);
        CHECKS.due("left slowly", x.backed(1), 0);
    }

    private static void promise11Empty() {
        for (boolean quick : new boolean[] {false, true}) {
            Twins.refused(CHECKS, "no regions: shutdown(" + quick + ")", RegionThreads::new, x -> x.shutdown(quick), 0);
            for (int state = 1; state <= 4; state++) {
                RegionThreads x = Starts.inState(state);
                Checks.turns(x, 2, 5);
                String before = Twins.seen(x);
                CHECKS.due("none goes on: shutdown(" + quick + ")", x.shutdown(quick), 0);
                CHECKS.due("none goes on: nothing changes", Twins.seen(x), before);
            }
        }
    }

    private static void promise11Closed() {
        for (boolean quick : new boolean[] {false, true}) {
            Twins.refused(CHECKS, "closed: shutdown(" + quick + ")", Starts::closed, x -> x.shutdown(quick), -5);
            CHECKS.due("closed, no regions: shutdown(" + quick + ")", Starts.closedEmpty().shutdown(quick), -5);
        }
    }

    private static void promise11OnceMore() {
        RegionThreads x = Starts.stepped(2);
        CHECKS.due("a unit is left", x.shutdown(true), 1);
        CHECKS.due("it counts once: at once", x.shutdown(true), 0);
        CHECKS.due("it counts once: slowly", x.shutdown(false), 0);
        CHECKS.due("it was left by then", x.close(), 0);
    }

    private static void promise11QuickUnitsRoundADecision() {
        int[] units = {0, 1, 1, 0, 1, 1, 0};
        for (int done = 0; done <= 6; done++) {
            RegionThreads x = Starts.decided(6, 2);
            Checks.turns(x, 1, done);
            CHECKS.due("left behind step " + done, x.shutdown(true), units[done]);
            CHECKS.due("state behind step " + done, x.finished(1), done == 6 ? 1 : 4);
        }
    }

    private static void promise11QuickLargest() {
        RegionThreads x = Starts.regions(30, 2);
        CHECKS.due("30 without a step", x.shutdown(true), 0);
        RegionThreads y = Starts.regions(30, 2);
        for (int region = 1; region <= 30; region++) {
            y.turn(region);
        }
        y.run();
        CHECKS.due("30 with a step", y.shutdown(true), 30);
        CHECKS.due("none goes on", y.count(3), 0);
    }

    private static void promise11SlowBetweenADecisionsSteps() {
        for (int waitsAt = 1; waitsAt <= 6; waitsAt++) {
            RegionThreads x = Starts.decided(6, 3);
            x.waits(1, waitsAt, 0);
            boolean between = waitsAt == 4;
            int open = waitsAt <= 3 ? waitsAt - 1 : waitsAt - 5;
            CHECKS.due("held up at " + waitsAt + ": units", x.shutdown(false), between ? 1 : 0);
            CHECKS.due("held up at " + waitsAt + ": state", x.finished(1), between ? 4 : 3);
            CHECKS.due("held up at " + waitsAt + ": cleaned", x.cleaned(1), between ? 0 : 1);
            CHECKS.due("held up at " + waitsAt + ": backed", x.backed(1), between ? 0 : open);
            CHECKS.due("held up at " + waitsAt + ": done", x.done(1), waitsAt - 1);
        }
    }

    private static void promise11SlowToBeCancelledBetween() {
        RegionThreads x = Starts.decided(4, 1);
        x.waits(1, 2, 0);
        Checks.turns(x, 1, 1);
        x.cancel(1);
        CHECKS.due("held up between: left", x.shutdown(false), 1);
        CHECKS.due("left, not cancelled", x.finished(1), 4);
        RegionThreads y = Starts.decided(4, 1);
        Checks.turns(y, 1, 1);
        y.cancel(1);
        CHECKS.due("not held up: no unit", y.shutdown(false), 0);
        CHECKS.due("cancelled behind its second step", y.finished(1), 3);
        CHECKS.due("which was done", y.done(1), 2);
    }

    private static void promise11SlowRoundThatOnlyEnds() {
        RegionThreads x = new RegionThreads();
        x.region(1, 0);
        x.region(2, 1);
        x.waits(1, 1, 0);
        x.waits(2, 1, 1);
        x.region(2, 0);
        x.cancel(3);
        x.post(1);
        CHECKS.due("a failure and a cancelling, no step", x.shutdown(false), 0);
        CHECKS.due("held up, then cancelled", x.finished(1), 3);
        CHECKS.due("failed", x.finished(2), 2);
        CHECKS.due("cancelled at its turn", x.finished(3), 3);
        CHECKS.due("no step", x.count(2), 0);
    }

    private static void promise11SlowRoundThatOnlyTakes() {
        RegionThreads x = Starts.withWaits(2);
        Checks.turns(x, 2, 5);
        x.post(0);
        CHECKS.due("takes a posting, and no more", x.shutdown(false), 0);
        CHECKS.due("the posting is taken", x.count(10), 0);
        CHECKS.due("cancelled then", x.finished(1), 3);
    }

    private static void promise11SlowLongest() {
        RegionThreads x = Starts.regions(29, 100);
        x.region(100, 100);
        CHECKS.due("every step of all", x.shutdown(false), 0);
        CHECKS.due("but the failing one", x.count(2), 2999);
        CHECKS.due("done", x.finished(29), 1);
        CHECKS.due("failed in the last round", x.finished(30), 2);
        CHECKS.due("with all it did", x.backed(30), 99);
    }

    private static void promise11TheScheduleIsEmptyThen() {
        for (boolean quick : new boolean[] {false, true}) {
            RegionThreads x = Starts.busy();
            CHECKS.due("turns before", x.count(1), 3);
            x.shutdown(quick);
            CHECKS.due("no turns then", x.count(1), 0);
            CHECKS.due("nothing to go through", x.run(), 0);
            CHECKS.due("nothing passed over", x.count(4), 0);
            x.region(1, 0);
            CHECKS.due("a new turn is the only one", Checks.turns(x, 5, 1), 1);
        }
    }

    private static void promise13NoSuchRegion() {
        CHECKS.due("no regions: finished(1)", new RegionThreads().finished(1), -2);
        for (int region : Checks.outside(1, 4)) {
            Twins.refused(CHECKS, "finished(" + region + ")", Starts::busy, x -> x.finished(region), -2);
            CHECKS.due("closed: finished(" + region + ")", Starts.closed().finished(region), -2);
        }
    }

    private static void promise13EveryState() {
        for (int state = 0; state <= 4; state++) {
            CHECKS.due("state " + state, Starts.inState(state).finished(1), state);
            CHECKS.due("another goes on", Starts.inState(state).finished(2), 0);
        }
        RegionThreads x = Starts.stepped(4);
        CHECKS.due("one step short", x.finished(1), 0);
        Checks.turns(x, 1, 1);
        CHECKS.due("behind the last one", x.finished(1), 1);
    }

    private static void promise13FirstAndLastRegion() {
        RegionThreads x = Starts.regions(30, 1);
        Checks.turns(x, 30, 1);
        CHECKS.due("the last of 30", x.finished(30), 1);
        CHECKS.due("the first of 30", x.finished(1), 0);
        CHECKS.due("none behind", x.finished(31), -2);
        CHECKS.due("none before", x.finished(0), -2);
    }

    private static void promise14Empty() {
        RegionThreads x = new RegionThreads();
        CHECKS.due("no regions: close()", x.close(), 0);
        CHECKS.due("it is closed", x.count(5), 1);
        CHECKS.due("once more", x.close(), -5);
    }

    private static void promise14Largest() {
        RegionThreads x = Starts.regions(30, 100);
        CHECKS.due("30 regions: close()", x.close(), 30);
        CHECKS.due("left: the first", x.finished(1), 4);
        CHECKS.due("left: the last", x.finished(30), 4);
        CHECKS.due("none goes on", x.count(3), 0);
    }

    private static void promise14ClosedAlready() {
        Twins.refused(CHECKS, "closed: close()", Starts::closed, RegionThreads::close, -5);
        Twins.refused(CHECKS, "closed, no regions: close()", Starts::closedEmpty, RegionThreads::close, -5);
    }

    private static void promise14EndedOnesDoNotCount() {
        for (int state = 0; state <= 4; state++) {
            RegionThreads x = Starts.inState(state);
            CHECKS.due("state " + state + ": close()", x.close(), state == 0 ? 2 : 1);
            CHECKS.due("state " + state + ": then", x.finished(1), state == 0 ? 4 : state);
        }
        CHECKS.due("with or without a step", Starts.busy().close(), 4);
    }

    private static void promise14AllCallsThen() {
        RegionThreads x = Starts.busy();
        x.close();
        CHECKS.due("region", x.region(1, 0), -5);
        CHECKS.due("waits", x.waits(1, 1, 0), -5);
        CHECKS.due("post", x.post(0), -5);
        x.turn(1);
        CHECKS.due("turn", x.count(1), 0);
        CHECKS.due("run", x.run(), -5);
        CHECKS.due("log", x.log(0), 4001);
        CHECKS.due("cancel", x.cancel(1), false);
        CHECKS.due("cleaned", x.cleaned(1), 0);
        CHECKS.due("backed", x.backed(1), 0);
        CHECKS.due("shutdown", x.shutdown(false), -5);
        CHECKS.due("shutdown", x.shutdown(true), -5);
        CHECKS.due("decision", x.decision(1, 1), -5);
        CHECKS.due("finished", x.finished(1), 4);
        CHECKS.due("close", x.close(), -5);
        CHECKS.due("done", x.done(4), 1);
        CHECKS.due("postings that nobody took", x.count(25), 1);
    }

    private static void promise15Others() {
        for (int what : Checks.outside(0, 25)) {
            Twins.refused(CHECKS, "count(" + what + ")", Starts::busy, x -> x.count(what), RegionThreads.NONE);
        }
        for (int what = 6; what <= 9; what++) {
            CHECKS.due("count(" + what + ")", Starts.busy().count(what), -1);
            CHECKS.due("closed: count(" + what + ")", Starts.closed().count(what), -1);
        }
        for (int i = 0; i <= 30; i++) {
            CHECKS.due("near the least number", Starts.busy().count(Integer.MIN_VALUE + i), -1);
            CHECKS.due("near the greatest number", Starts.busy().count(Integer.MAX_VALUE - i), -1);
        }
    }

    private static void promise15FirstAndLastEvent() {
        RegionThreads x = Starts.busy();
        CHECKS.due("event 0", x.count(10), 1);
        CHECKS.due("event 15", x.count(25), 1);
        CHECKS.due("before event 0", x.count(9), -1);
        CHECKS.due("behind event 15", x.count(26), -1);
        for (int what = 11; what <= 24; what++) {
            CHECKS.due("not posted: count(" + what + ")", x.count(what), 0);
        }
    }

    private static void promise15Largest() {
        RegionThreads x = Starts.regions(30, 100);
        CHECKS.due("30 regions", x.count(0), 30);
        CHECKS.due("30 go on", x.count(3), 30);
        x.shutdown(false);
        CHECKS.due("30 regions still", x.count(0), 30);
        CHECKS.due("none goes on", x.count(3), 0);
        CHECKS.due("3000 entries", x.count(2), 3000);
        for (int i = 0; i < 470; i++) {
            x.turn(i % 30 + 1);
        }
        CHECKS.due("470 turns", x.count(1), 470);
        x.run();
        CHECKS.due("all of them passed over", x.count(4), 470);
    }

    private static void promise15Closed() {
        CHECKS.due("not closed", Starts.busy().count(5), 0);
        CHECKS.due("closed", Starts.closed().count(5), 1);
        RegionThreads x = Starts.closed();
        x.close();
        CHECKS.due("closed once more", x.count(5), 1);
        RegionThreads y = Starts.busy();
        y.shutdown(false);
        y.shutdown(true);
        CHECKS.due("shut down, not closed", y.count(5), 0);
    }

    private static void promise15OnlyPassedOver() {
        RegionThreads x = new RegionThreads();
        x.region(2, 2);
        x.region(1, 0);
        x.cancel(2);
        x.turn(1);
        x.turn(1);
        x.turn(2);
        x.run();
        CHECKS.due("a step, a failure and a cancelling are not", x.count(4), 0);
        x.turn(1);
        x.turn(2);
        CHECKS.due("not before run", x.count(4), 0);
        x.run();
        CHECKS.due("turns of ended ones are", x.count(4), 2);
        x.run();
        CHECKS.due("an empty schedule has none", x.count(4), 2);
    }

    private EndsBoundsTest() {
    }
}
