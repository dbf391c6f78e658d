/** The boundary cases that promises 1, 2, 3 and 12 name, one test for each. */
public final class PlanBoundsTest {
    private static final Checks CHECKS = new Checks();

    public static void main(String[] args) {
        promise1NothingThere();
        promise1OthersAreUntouched();
        promise2StepsTooSmallOrTooLarge();
        promise2FailsAtTooSmallOrTooLarge();
        promise2EveryNumberOfSteps();
        promise2EveryFailsAt();
        promise2FailsBehindItsLastStep();
        promise2Full();
        promise2FullThoughAllHaveEnded();
        promise2Closed();
        promise2WhichRefusalComesFirst();
        promise3NoSuchRegion();
        promise3StepIsNotOneOfIts();
        promise3NoSuchEvent();
        promise3EveryEvent();
        promise3FirstAndLastStep();
        promise3HasDoneThatStep();
        promise3DoesNotGoOn();
        promise3Full();
        promise3FullThoughAllAreTaken();
        promise3WhichRefusalComesFirst();
        promise3ToldWhileItIsHeldUp();
        promise12NoSuchRegion();
        promise12StepTooSmallOrTooLarge();
        promise12OneStepAlone();
        promise12FirstAndLastPair();
        promise12BelongsToOneAlready();
        promise12Full();
        promise12HasDoneThatStep();
        promise12DoesNotGoOn();
        promise12WhichRefusalComesFirst();
        CHECKS.finish();
    }

    private static void promise1NothingThere() {
        RegionThreads x = new RegionThreads();
        CHECKS.due("a new object: counts", Twins.seen(x), "0 0 0 0 0 0 -1 -1 -1 -1 0 0 0 0 0 0 0 0 0 0 0 0 0 0 0 0 | ");
        CHECKS.due("a new object: run()", x.run(), 0);
        CHECKS.due("a new object: shutdown(false)", x.shutdown(false), 0);
        CHECKS.due("a new object: shutdown(true)", x.shutdown(true), 0);
        CHECKS.due("a new object: its first region", x.region(1, 0), 1);
    }

    private static void promise1OthersAreUntouched() {
        RegionThreads used = Starts.busy();
        RegionThreads x = new RegionThreads();
        CHECKS.due("no region of another object", x.finished(1), -2);
        CHECKS.due("no posting of another object", x.post(0), 1);
        used.close();
        CHECKS.due("not closed with another object", x.region(1, 0), 1);
    }

    private static void promise2StepsTooSmallOrTooLarge() {
        for (int steps : Checks.outside(1, 100)) {
            Twins.refused(CHECKS, "region(" + steps + ", 0)", RegionThreads::new, x -> x.region(steps, 0), -4);
            Twins.refused(CHECKS, "busy: region(" + steps + ", 1)", Starts::busy, x -> x.region(steps, 1), -4);
        }
    }

    private static void promise2FailsAtTooSmallOrTooLarge() {
        for (int failsAt : Checks.outside(0, 100)) {
            Twins.refused(CHECKS, "region(1, " + failsAt + ")", RegionThreads::new, x -> x.region(1, failsAt), -4);
            Twins.refused(CHECKS, "busy: region(100, " + failsAt + ")", Starts::busy, x -> x.region(100, failsAt), -4);
            Twins.refused(CHECKS, "region(0, " + failsAt + ")", Starts::busy, x -> x.region(0, failsAt), -4);
        }
    }

    private static void promise2EveryNumberOfSteps() {
        for (int steps = 1; steps <= 100; steps++) {
            RegionThreads x = new RegionThreads();
            CHECKS.due("region(" + steps + ", 0)", x.region(steps, 0), 1);
            CHECKS.due("one turn short of " + steps, Checks.turns(x, 1, steps - 1), steps - 1);
            CHECKS.due("it goes on", x.finished(1), 0);
            CHECKS.due("its last of " + steps + ", and no more", Checks.turns(x, 1, 2), 1);
            CHECKS.due("it is done", x.finished(1), 1);
        }
    }

    private static void promise2EveryFailsAt() {
        for (int failsAt = 0; failsAt <= 100; failsAt++) {
            RegionThreads x = new RegionThreads();
            CHECKS.due("region(100, " + failsAt + ")", x.region(100, failsAt), 1);
            CHECKS.due("fails at " + failsAt + ": steps", Checks.turns(x, 1, 101), failsAt == 0 ? 100 : failsAt - 1);
            CHECKS.due("fails at " + failsAt + ": state", x.finished(1), failsAt == 0 ? 1 : 2);
        }
    }

    private static void promise2FailsBehindItsLastStep() {
        for (int failsAt = 4; failsAt <= 100; failsAt++) {
            RegionThreads x = new RegionThreads();
            CHECKS.due("region(3, " + failsAt + ")", x.region(3, failsAt), 1);
            CHECKS.due("all of its steps", Checks.turns(x, 1, 5), 3);
            CHECKS.due("done, not failed", x.finished(1), 1);
        }
    }

    private static void promise2Full() {
        RegionThreads x = Starts.regions(29, 2);
        CHECKS.due("the 30th", x.region(2, 0), 30);
        CHECKS.due("the 31st", x.region(2, 0), -1);
        CHECKS.due("the 31st again", x.region(100, 100), -1);
        CHECKS.due("30 are kept", x.count(0), 30);
        Twins.refused(CHECKS, "full: region(1, 0)", () -> Starts.regions(30, 2), y -> y.region(1, 0), RegionThreads.NONE);
    }

    private static void promise2FullThoughAllHaveEnded() {
        RegionThreads x = Starts.regions(30, 1);
        x.shutdown(false);
        CHECKS.due("30 are done: another", x.region(1, 0), -1);
        CHECKS.due("none goes on", x.count(3), 0);
    }

    private static void promise2Closed() {
        Twins.refused(CHECKS, "closed: region(1, 0)", Starts::closedEmpty, x -> x.region(1, 0), -5);
        Twins.refused(CHECKS, "closed, with regions: region(1, 0)", Starts::closed, x -> x.region(1, 0), -5);
    }

    private static void promise2WhichRefusalComesFirst() {
        CHECKS.due("full and wrong", Starts.regions(30, 1).region(101, 0), -4);
        CHECKS.due("closed and wrong", Starts.closedEmpty().region(0, 0), -4);
        CHECKS.due("closed and wrong", Starts.closedEmpty().region(1, 101), -4);
        RegionThreads x = Starts.regions(30, 1);
        x.close();
        CHECKS.due("closed and full", x.region(1, 0), -5);
        CHECKS.due("closed, full and wrong", x.region(1, -1), -4);
    }

    private static void promise3NoSuchRegion() {
        CHECKS.due("no regions: waits(1, 1, 0)", new RegionThreads().waits(1, 1, 0), -2);
        for (int region : Checks.outside(1, 4)) {
            Twins.refused(CHECKS, "waits(" + region + ", 1, 0)", Starts::busy, x -> x.waits(region, 1, 0), -2);
        }
        for (int region : Checks.outside(1, 30)) {
            CHECKS.due("full: waits(" + region + ", 1, 0)", Starts.regions(30, 1).waits(region, 1, 0), -2);
        }
        CHECKS.due("the first of 30", Starts.regions(30, 1).waits(1, 1, 0), 1);
        CHECKS.due("the last of 30", Starts.regions(30, 1).waits(30, 1, 0), 1);
    }

    private static void promise3StepIsNotOneOfIts() {
        for (int step : Checks.outside(1, 5)) {
            Twins.refused(CHECKS, "waits(1, " + step + ", 0)", Starts::busy, x -> x.waits(1, step, 0), -4);
        }
        for (int step : Checks.outside(1, 100)) {
            CHECKS.due("of 100: waits(1, " + step + ", 0)", Starts.regions(1, 100).waits(1, step, 0), -4);
        }
        CHECKS.due("of one step: waits(1, 2, 0)", Starts.regions(1, 1).waits(1, 2, 0), -4);
        RegionThreads x = new RegionThreads();
        x.region(2, 0);
        x.region(3, 0);
        CHECKS.due("a step that only another has", x.waits(1, 3, 0), -4);
        CHECKS.due("the other has it", x.waits(2, 3, 0), 1);
    }

    private static void promise3NoSuchEvent() {
        for (int on : Checks.outside(0, 15)) {
            Twins.refused(CHECKS, "waits(1, 4, " + on + ")", Starts::busy, x -> x.waits(1, 4, on), -4);
        }
    }

    private static void promise3EveryEvent() {
        for (int on = 0; on <= 15; on++) {
            RegionThreads x = Starts.regions(1, 1);
            CHECKS.due("waits(1, 1, " + on + ")", x.waits(1, 1, on), 1);
            for (int other = 0; other <= 15; other++) {
                if (other != on) {
                    x.post(other);
                }
            }
            CHECKS.due("no other event helps " + on, Checks.turns(x, 1, 1), 0);
            x.post(on);
            CHECKS.due("its own does: " + on, Checks.turns(x, 1, 1), 1);
            for (int other = 0; other <= 15; other++) {
                CHECKS.due("only event " + on + " is taken", x.count(10 + other), other == on ? 0 : 1);
            }
        }
    }

    private static void promise3FirstAndLastStep() {
        RegionThreads x = Starts.regions(1, 100);
        CHECKS.due("ahead of the last step", x.waits(1, 100, 0), 1);
        CHECKS.due("99 are free", Checks.turns(x, 1, 105), 99);
        x.post(0);
        CHECKS.due("the last one", Checks.turns(x, 1, 1), 1);
        RegionThreads y = Starts.regions(1, 100);
        CHECKS.due("ahead of the first step", y.waits(1, 1, 0), 1);
        CHECKS.due("none is free", Checks.turns(y, 1, 105), 0);
        y.post(0);
        CHECKS.due("then all are", Checks.turns(y, 1, 100), 100);
    }

    private static void promise3HasDoneThatStep() {
        Twins.refused(CHECKS, "done two: waits(1, 1, 0)", () -> Starts.stepped(2), x -> x.waits(1, 1, 0), -5);
        Twins.refused(CHECKS, "done two: waits(1, 2, 0)", () -> Starts.stepped(2), x -> x.waits(1, 2, 0), -5);
        CHECKS.due("done two: waits(1, 3, 0)", Starts.stepped(2).waits(1, 3, 0), 1);
        CHECKS.due("done none: waits(1, 1, 0)", Starts.stepped(0).waits(1, 1, 0), 1);
    }

    private static void promise3DoesNotGoOn() {
        for (int state = 1; state <= 4; state++) {
            int ended = state;
            for (int step = 1; step <= 5; step++) {
                int at = step;
                Twins.refused(CHECKS, "state " + state + ": waits(1, " + step + ", 0)", () -> Starts.inState(ended), x -> x.waits(1, at, 0), -5);
            }
        }
        CHECKS.due("closed: waits(1, 5, 0)", Starts.closed().waits(1, 5, 0), -5);
    }

    private static void promise3Full() {
        RegionThreads x = Starts.withWaits(19);
        CHECKS.due("the 20th", x.waits(1, 2, 1), 20);
        CHECKS.due("the 21st", x.waits(1, 2, 1), -1);
        CHECKS.due("the 21st, at another step", x.waits(1, 5, 2), -1);
        CHECKS.due("another region has its own 20", x.waits(2, 1, 0), 1);
        Twins.refused(CHECKS, "full: waits(1, 3, 4)", () -> Starts.withWaits(20), y -> y.waits(1, 3, 4), RegionThreads.NONE);
    }

    private static void promise3FullThoughAllAreTaken() {
        RegionThreads x = Starts.withWaits(20);
        for (int i = 0; i < 20; i++) {
            x.post(0);
        }
        CHECKS.due("all 20 are taken in one turn", Checks.turns(x, 1, 1), 1);
        CHECKS.due("no posting is left", x.count(10), 0);
        CHECKS.due("it has 20 still", x.waits(1, 5, 0), -1);
    }

    private static void promise3WhichRefusalComesFirst() {
        RegionThreads x = Starts.withWaits(20);
        CHECKS.due("no region, wrong step and event", x.waits(3, 0, 16), -2);
        CHECKS.due("full, wrong step", x.waits(1, 6, 0), -4);
        CHECKS.due("full, wrong event", x.waits(1, 5, -1), -4);
        RegionThreads y = Starts.stepped(2);
        CHECKS.due("done step, wrong event", y.waits(1, 1, 16), -4);
        while (y.waits(1, 5, 0) > 0) {
            CHECKS.due("a wait more goes on", y.finished(1), 0);
        }
        CHECKS.due("full, done step", y.waits(1, 2, 0), -5);
        y.close();
        CHECKS.due("full, closed", y.waits(1, 5, 0), -5);
        CHECKS.due("closed, wrong step", y.waits(1, 6, 0), -4);
        CHECKS.due("closed, no region", y.waits(0, 1, 0), -2);
    }

    private static void promise3ToldWhileItIsHeldUp() {
        RegionThreads x = Starts.regions(1, 2);
        x.waits(1, 1, 3);
        CHECKS.due("held up", Checks.turns(x, 1, 1), 0);
        CHECKS.due("a second one at the same step", x.waits(1, 1, 3), 2);
        x.post(3);
        CHECKS.due("one posting is for one waiting", Checks.turns(x, 1, 1), 0);
        CHECKS.due("and is taken", x.count(13), 0);
        CHECKS.due("a third one, behind them", x.waits(1, 1, 2), 3);
        x.post(2);
        CHECKS.due("the second holds the third up", Checks.turns(x, 1, 1), 0);
        CHECKS.due("which took nothing", x.count(12), 1);
        x.post(3);
        CHECKS.due("now both", Checks.turns(x, 1, 1), 1);
    }

    private static void promise12NoSuchRegion() {
        CHECKS.due("no regions: decision(1, 1)", new RegionThreads().decision(1, 1), -2);
        for (int region : Checks.outside(1, 4)) {
            Twins.refused(CHECKS, "decision(" + region + ", 1)", Starts::busy, x -> x.decision(region, 1), -2);
        }
        CHECKS.due("full: decision(31, 1)", Starts.regions(30, 2).decision(31, 1), -2);
        CHECKS.due("the last of 30", Starts.regions(30, 2).decision(30, 1), 1);
    }

    private static void promise12StepTooSmallOrTooLarge() {
        for (int step : Checks.outside(1, 4)) {
            Twins.refused(CHECKS, "decision(1, " + step + ")", Starts::busy, x -> x.decision(1, step), -4);
        }
        for (int step : Checks.outside(1, 99)) {
            CHECKS.due("of 100: decision(1, " + step + ")", Starts.regions(1, 100).decision(1, step), -4);
        }
    }

    private static void promise12OneStepAlone() {
        for (int step = -1; step <= 2; step++) {
            CHECKS.due("of one step: decision(1, " + step + ")", Starts.regions(1, 1).decision(1, step), -4);
        }
        CHECKS.due("of two steps: decision(1, 1)", Starts.regions(1, 2).decision(1, 1), 1);
        CHECKS.due("of two steps: decision(1, 2)", Starts.regions(1, 2).decision(1, 2), -4);
    }

    private static void promise12FirstAndLastPair() {
        RegionThreads x = Starts.regions(1, 100);
        CHECKS.due("decision(1, 99)", x.decision(1, 99), 1);
        CHECKS.due("decision(1, 1)", x.decision(1, 1), 1);
        Checks.turns(x, 1, 99);
        CHECKS.due("told between the last two", x.cancel(1), true);
        CHECKS.due("its last step", Checks.turns(x, 1, 1), 1);
        CHECKS.due("done, not cancelled", x.finished(1), 1);
        RegionThreads y = Starts.regions(1, 100);
        y.decision(1, 1);
        Checks.turns(y, 1, 1);
        y.cancel(1);
        CHECKS.due("told between the first two", Checks.turns(y, 1, 2), 1);
        CHECKS.due("cancelled behind them", y.finished(1), 3);
        CHECKS.due("with no open step", y.backed(1), 0);
    }

    private static void promise12BelongsToOneAlready() {
        for (int step = 2; step <= 4; step++) {
            int at = step;
            Twins.refused(CHECKS, "beside decision(1, 3): decision(1, " + step + ")", () -> Starts.decided(6, 3), x -> x.decision(1, at), 0);
        }
        CHECKS.due("just before it", Starts.decided(6, 3).decision(1, 1), 1);
        CHECKS.due("just behind it", Starts.decided(6, 3).decision(1, 5), 1);
        RegionThreads x = Starts.decided(6, 2);
        x.decision(1, 4);
        CHECKS.due("one of both alone, the next", x.decision(1, 1), 0);
        CHECKS.due("one of both alone, the first", x.decision(1, 5), 0);
        CHECKS.due("of two decisions one step each", x.decision(1, 3), 0);
    }

    private static void promise12Full() {
        RegionThreads x = Starts.regions(1, 100);
        for (int step = 1; step <= 99; step += 2) {
            CHECKS.due("pair at " + step, x.decision(1, step), 1);
        }
        for (int step = 1; step <= 99; step++) {
            CHECKS.due("all steps belong to one: " + step, x.decision(1, step), 0);
        }
        x.cancel(1);
        CHECKS.due("it may at once", Checks.turns(x, 1, 1), 0);
        CHECKS.due("cancelled", x.finished(1), 3);
    }

    private static void promise12HasDoneThatStep() {
        Twins.refused(CHECKS, "done two: decision(1, 1)", () -> Starts.stepped(2), x -> x.decision(1, 1), -5);
        Twins.refused(CHECKS, "done two: decision(1, 2)", () -> Starts.stepped(2), x -> x.decision(1, 2), -5);
        CHECKS.due("done two: decision(1, 3)", Starts.stepped(2).decision(1, 3), 1);
        CHECKS.due("done none: decision(1, 1)", Starts.stepped(0).decision(1, 1), 1);
    }

    private static void promise12DoesNotGoOn() {
        for (int state = 1; state <= 4; state++) {
            int ended = state;
            for (int step = 1; step <= 4; step++) {
                int at = step;
                Twins.refused(CHECKS, "state " + state + ": decision(1, " + step + ")", () -> Starts.inState(ended), x -> x.decision(1, at), -5);
            }
        }
        CHECKS.due("closed: decision(1, 4)", Starts.closed().decision(1, 4), -5);
    }

    private static void promise12WhichRefusalComesFirst() {
        CHECKS.due("no region, wrong step", Starts.busy().decision(5, 0), -2);
        CHECKS.due("done step 5 of 5", Starts.inState(1).decision(1, 5), -4);
        CHECKS.due("closed, wrong step", Starts.closed().decision(1, 5), -4);
        CHECKS.due("closed, no region", Starts.closed().decision(9, 1), -2);
        RegionThreads x = Starts.decided(6, 1);
        Checks.turns(x, 1, 1);
        CHECKS.due("done, and belongs to one", x.decision(1, 1), -5);
        CHECKS.due("not done, and belongs to one", x.decision(1, 2), 0);
        CHECKS.due("last step of a decision at the end", Starts.decided(6, 5).decision(1, 6), -4);
    }

    private PlanBoundsTest() {
    }
}
