/** The boundary cases that promises 4, 5, 6, 7 and 16, and a turn among the terms, name: one test for each. */
public final class TurnsBoundsTest {
    private static final Checks CHECKS = new Checks();

    public static void main(String[] args) {
        promise4NoSuchEvent();
        promise4FirstAndLastEvent();
        promise4ManyPostings();
        promise4Closed();
        promise4WhichRefusalComesFirst();
        promise4ShutdownIsNotClosing();
        promise5OfNoRegion();
        promise5Closed();
        promise5BehindAllOthers();
        promise5AsManyAsCallsAllow();
        promise5Full();
        promise5OfRegionsThatHaveEnded();
        promise6EmptySchedule();
        promise6AllPassedOver();
        promise6Closed();
        promise6TheRestOfASchedule();
        promise7EmptyLog();
        promise7BeforeTheFirstAndBehindTheLast();
        promise7GreatestEntry();
        promise7Full();
        promise7AsLongAsSchedulesGo();
        promise16NoSuchRegion();
        promise16FirstAndLastStep();
        promise16EveryEnd();
        turnTakesNoPosting();
        turnTakesAPartOfThePostings();
        turnTakesTheLastPosting();
        turnWaitsAtItsNextStepAlone();
        turnFailsAtAStepWithoutAnotherEnd();
        CHECKS.finish();
    }

    private static void promise4NoSuchEvent() {
        for (int on : Checks.outside(0, 15)) {
            Twins.refused(CHECKS, "post(" + on + ")", RegionThreads::new, x -> x.post(on), -4);
            Twins.refused(CHECKS, "busy: post(" + on + ")", Starts::busy, x -> x.post(on), -4);
        }
    }

    private static void promise4FirstAndLastEvent() {
        RegionThreads x = new RegionThreads();
        CHECKS.due("post(0)", x.post(0), 1);
        CHECKS.due("post(15)", x.post(15), 1);
        CHECKS.due("post(15)", x.post(15), 2);
        CHECKS.due("count(10)", x.count(10), 1);
        CHECKS.due("count(25)", x.count(25), 2);
        for (int on = 1; on <= 14; on++) {
            CHECKS.due("count of " + on, x.count(10 + on), 0);
            CHECKS.due("post(" + on + ")", x.post(on), 1);
        }
    }

    private static void promise4ManyPostings() {
        RegionThreads x = new RegionThreads();
        for (int i = 1; i <= 511; i++) {
            CHECKS.due("posting " + i, x.post(6), i);
        }
        CHECKS.due("all in 512 calls", x.count(16), 511);
    }

    private static void promise4Closed() {
        for (int on = 0; on <= 15; on++) {
            int event = on;
            Twins.refused(CHECKS, "closed: post(" + on + ")", Starts::closed, x -> x.post(event), -5);
        }
        CHECKS.due("closed, without regions", Starts.closedEmpty().post(0), -5);
    }

    private static void promise4WhichRefusalComesFirst() {
        CHECKS.due("closed and too large", Starts.closed().post(16), -4);
        CHECKS.due("closed and too small", Starts.closed().post(-1), -4);
    }

    private static void promise4ShutdownIsNotClosing() {
        for (boolean quick : new boolean[] {false, true}) {
            RegionThreads x = Starts.busy();
            x.shutdown(quick);
            CHECKS.due("behind shutdown(" + quick + ")", x.post(0), 2);
        }
    }

    private static int afterTurn(RegionThreads x, int region) {
        x.turn(region);
        return x.count(1);
    }

    private static void promise5OfNoRegion() {
        Twins.refused(CHECKS, "no regions: turn(1)", RegionThreads::new, x -> afterTurn(x, 1), 0);
        for (int region : Checks.outside(1, 4)) {
            Twins.refused(CHECKS, "turn(" + region + ")", Starts::busy, x -> afterTurn(x, region), 3);
        }
        CHECKS.due("full: turn(31)", afterTurn(Starts.regions(30, 1), 31), 0);
        CHECKS.due("full: turn(30)", afterTurn(Starts.regions(30, 1), 30), 1);
        RegionThreads x = Starts.regions(1, 1);
        x.turn(2);
        x.region(1, 0);
        CHECKS.due("a region that comes later", x.run(), 0);
        CHECKS.due("its lost turn is not passed over", x.count(4), 0);
    }

    private static void promise5Closed() {
        for (int region = 1; region <= 4; region++) {
            int number = region;
            Twins.refused(CHECKS, "closed: turn(" + region + ")", Starts::closed, x -> afterTurn(x, number), 0);
        }
    }

    private static void promise5BehindAllOthers() {
        RegionThreads x = Starts.regions(30, 2);
        for (int region = 30; region >= 1; region--) {
            x.turn(region);
        }
        x.turn(30);
        CHECKS.due("31 turns", x.run(), 31);
        CHECKS.due("the first of them", x.log(0), 30001);
        CHECKS.due("the 30th", x.log(29), 1001);
        CHECKS.due("the last of them", x.log(30), 30002);
    }

    private static void promise5AsManyAsCallsAllow() {
        RegionThreads x = Starts.regions(5, 100);
        for (int i = 0; i < 500; i++) {
            x.turn(i % 5 + 1);
        }
        CHECKS.due("500 turns", x.count(1), 500);
        CHECKS.due("500 steps", x.run(), 500);
        CHECKS.due("all gone", x.count(1), 0);
        CHECKS.due("all five done", x.count(3), 0);
    }

    // No 512 calls fill the schedule, so the document leaves these answers free; its words hold though.
    private static void promise5Full() {
        RegionThreads x = Starts.regions(7, 100);
        for (int i = 0; i < 599; i++) {
            x.turn(i % 6 + 1);
        }
        CHECKS.due("the 600th", afterTurn(x, 7), 600);
        CHECKS.due("the 601st is lost", afterTurn(x, 7), 600);
        CHECKS.due("the 602nd is lost", afterTurn(x, 1), 600);
        CHECKS.due("600 steps", x.run(), 600);
        CHECKS.due("the 600th turn was kept", x.done(7), 1);
        CHECKS.due("there is room again", afterTurn(x, 7), 1);
    }

    private static void promise5OfRegionsThatHaveEnded() {
        for (int state = 1; state <= 4; state++) {
            RegionThreads x = Starts.inState(state);
            int before = x.count(4);
            CHECKS.due("state " + state + ": its turn is kept", afterTurn(x, 1), 1);
            CHECKS.due("state " + state + ": it does nothing", x.run(), 0);
            CHECKS.due("state " + state + ": it is passed over", x.count(4), before + 1);
            CHECKS.due("state " + state + ": it stays so", x.finished(1), state);
        }
    }

    private static void promise6EmptySchedule() {
        Twins.refused(CHECKS, "no regions: run()", RegionThreads::new, RegionThreads::run, 0);
        Twins.refused(CHECKS, "no turns: run()", () -> Starts.withWaits(2), RegionThreads::run, 0);
        RegionThreads x = Starts.stepped(2);
        CHECKS.due("gone through already", x.run(), 0);
        CHECKS.due("no step more", x.done(1), 2);
    }

    private static void promise6AllPassedOver() {
        RegionThreads x = Starts.withWaits(1);
        CHECKS.due("only one that waits", Checks.turns(x, 1, 3), 0);
        CHECKS.due("their turns are gone", x.count(1), 0);
        CHECKS.due("passed over", x.count(4), 3);
        x.post(0);
        CHECKS.due("turns that are gone don't come back", x.run(), 0);
        CHECKS.due("nor take a posting", x.count(10), 1);
    }

    private static void promise6Closed() {
        Twins.refused(CHECKS, "closed: run()", Starts::closed, RegionThreads::run, -5);
        Twins.refused(CHECKS, "closed, no regions: run()", Starts::closedEmpty, RegionThreads::run, -5);
    }

    private static void promise6TheRestOfASchedule() {
        RegionThreads x = new RegionThreads();
        x.region(2, 2);
        x.region(3, 0);
        int[] turns = {1, 1, 1, 2, 2, 2, 2};
        for (int region : turns) {
            x.turn(region);
        }
        CHECKS.due("a failure stops no other turn", x.run(), 4);
        CHECKS.due("passed over: one each", x.count(4), 2);
        CHECKS.due("failed", x.finished(1), 2);
        CHECKS.due("done", x.finished(2), 1);
    }

    private static void promise7EmptyLog() {
        int[] places = {0, 1, -1, 2999, 3000, Integer.MIN_VALUE, Integer.MAX_VALUE};
        for (int i : places) {
            CHECKS.due("no entry: log(" + i + ")", new RegionThreads().log(i), 0);
            CHECKS.due("no step yet: log(" + i + ")", Starts.withWaits(1).log(i), 0);
        }
    }

    private static void promise7BeforeTheFirstAndBehindTheLast() {
        for (int i : Checks.outside(0, 4)) {
            CHECKS.due("five entries: log(" + i + ")", Starts.stepped(5).log(i), 0);
        }
        for (int i = 0; i <= 4; i++) {
            CHECKS.due("five entries: log(" + i + ")", Starts.stepped(5).log(i), 1001 + i);
        }
        for (int i : Checks.outside(0, 15)) {
            RegionThreads x = Starts.regions(1, 16);
            Checks.turns(x, 1, 16);
            CHECKS.due("sixteen entries: log(" + i + ")", x.log(i), 0);
        }
    }

    private static void promise7GreatestEntry() {
        RegionThreads x = Starts.regions(30, 100);
        Checks.turns(x, 30, 100);
        CHECKS.due("step 100 of region 30", x.log(99), 30100);
        CHECKS.due("step 1 of region 30", x.log(0), 30001);
    }

    private static void promise7Full() {
        RegionThreads x = Starts.regions(30, 100);
        CHECKS.due("every step of all", x.shutdown(false), 0);
        CHECKS.due("entries", x.count(2), 3000);
        CHECKS.due("the last entry", x.log(2999), 30100);
        CHECKS.due("the one before", x.log(2998), 29100);
        CHECKS.due("none behind", x.log(3000), 0);
        for (int i = 0; i < 450; i++) {
            int at = i * 20 / 3;
            CHECKS.due("log(" + at + ")", x.log(at), 1000 * (at % 30 + 1) + at / 30 + 1);
        }
    }

    private static void promise7AsLongAsSchedulesGo() {
        for (int length = 1; length <= 130; length++) {
            RegionThreads x = Starts.regions(2, 100);
            for (int i = 0; i < length; i++) {
                x.turn(i % 2 + 1);
            }
            CHECKS.due("a schedule of " + length, x.run(), length);
            CHECKS.due("its last entry", x.log(length - 1), 1000 * ((length - 1) % 2 + 1) + (length - 1) / 2 + 1);
            CHECKS.due("none behind it", x.log(length), 0);
        }
    }

    private static void promise16NoSuchRegion() {
        CHECKS.due("no regions: done(1)", new RegionThreads().done(1), -2);
        for (int region : Checks.outside(1, 4)) {
            Twins.refused(CHECKS, "done(" + region + ")", Starts::busy, x -> x.done(region), -2);
            CHECKS.due("closed: done(" + region + ")", Starts.closed().done(region), -2);
        }
        CHECKS.due("full: done(31)", Starts.regions(30, 1).done(31), -2);
        CHECKS.due("full: done(30)", Starts.regions(30, 1).done(30), 0);
    }

    private static void promise16FirstAndLastStep() {
        RegionThreads x = Starts.regions(1, 100);
        for (int steps = 1; steps <= 100; steps++) {
            Checks.turns(x, 1, 1);
            CHECKS.due("done so far", x.done(1), steps);
        }
        Checks.turns(x, 1, 2);
        CHECKS.due("never more than its steps", x.done(1), 100);
    }

    private static void promise16EveryEnd() {
        int[] due = {0, 5, 2, 2, 2};
        for (int state = 1; state <= 4; state++) {
            RegionThreads x = Starts.inState(state);
            CHECKS.due("state " + state + ": done(1)", x.done(1), due[state]);
            Checks.turns(x, 1, 3);
            x.shutdown(false);
            CHECKS.due("state " + state + ", later: done(1)", x.done(1), due[state]);
        }
        CHECKS.due("failed at its first step", failedAtOnce().done(1), 0);
    }

    private static RegionThreads failedAtOnce() {
        RegionThreads x = new RegionThreads();
        x.region(1, 1);
        Checks.turns(x, 1, 1);
        return x;
    }

    private static void turnTakesNoPosting() {
        RegionThreads x = Starts.withWaits(2);
        CHECKS.due("no posting is there", Checks.turns(x, 1, 1), 0);
        CHECKS.due("none is owed", x.post(0), 1);
        CHECKS.due("a region without a wait takes none", Checks.turns(x, 2, 5), 5);
        CHECKS.due("it is there still", x.count(10), 1);
    }

    private static void turnTakesAPartOfThePostings() {
        RegionThreads x = Starts.withWaits(3);
        x.post(0);
        CHECKS.due("one of three", Checks.turns(x, 1, 1), 0);
        CHECKS.due("it is taken though", x.count(10), 0);
        x.post(0);
        x.post(0);
        x.post(0);
        CHECKS.due("the other two, but not the first again", Checks.turns(x, 1, 1), 1);
        CHECKS.due("one is too many", x.count(10), 1);
    }

    private static void turnTakesTheLastPosting() {
        RegionThreads x = Starts.regions(3, 1);
        for (int region = 1; region <= 3; region++) {
            x.waits(region, 1, 9);
        }
        x.post(9);
        x.post(9);
        for (int region = 3; region >= 1; region--) {
            x.turn(region);
        }
        CHECKS.due("two postings for three", x.run(), 2);
        CHECKS.due("the last one goes without", x.finished(1), 0);
        CHECKS.due("none is left", x.count(19), 0);
    }

    private static void turnWaitsAtItsNextStepAlone() {
        RegionThreads x = Starts.regions(1, 4);
        x.waits(1, 3, 1);
        x.waits(1, 4, 1);
        x.post(1);
        x.post(1);
        CHECKS.due("two steps without a wait", Checks.turns(x, 1, 2), 2);
        CHECKS.due("no posting is taken ahead of time", x.count(11), 2);
        CHECKS.due("the third", Checks.turns(x, 1, 1), 1);
        CHECKS.due("takes its own alone", x.count(11), 1);
        CHECKS.due("the fourth", Checks.turns(x, 1, 1), 1);
        CHECKS.due("takes the other", x.count(11), 0);
    }

    private static void turnFailsAtAStepWithoutAnotherEnd() {
        RegionThreads x = new RegionThreads();
        x.region(5, 5);
        CHECKS.due("its last step fails", Checks.turns(x, 1, 6), 4);
        CHECKS.due("failed, not done", x.finished(1), 2);
        CHECKS.due("one turn was passed over", x.count(4), 1);
        CHECKS.due("the failing step is not logged", x.log(4), 0);
    }

    private TurnsBoundsTest() {
    }
}
