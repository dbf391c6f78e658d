/** Promises 1, 2, 3 and 12: a new object, and what regions are told before their steps. */
public final class PlanTest {
    private static final Checks CHECKS = new Checks();

    public static void main(String[] args) {
        promise1NewObject();
        promise2Region();
        promise2Fails();
        promise3Answers();
        promise3Refusals();
        promise3Limit();
        promise3HoldsUp();
        promise12Answers();
        promise12Refusals();
        promise12NothingSplits();
        CHECKS.finish();
    }

    private static void promise1NewObject() {
        RegionThreads x = new RegionThreads();
        for (int what = 0; what <= 5; what++) {
            CHECKS.due("new: count(" + what + ")", x.count(what), 0);
        }
        for (int what = 10; what <= 25; what++) {
            CHECKS.due("new: count(" + what + ")", x.count(what), 0);
        }
        CHECKS.due("new: log(0)", x.log(0), 0);
        CHECKS.due("new: finished(1)", x.finished(1), -2);
        CHECKS.due("new: run()", x.run(), 0);
        CHECKS.due("new: shutdown(false)", x.shutdown(false), 0);
        CHECKS.due("new: shutdown(true)", x.shutdown(true), 0);
        CHECKS.due("new: close()", x.close(), 0);
        RegionThreads other = new RegionThreads();
        CHECKS.due("objects share nothing: count(5)", other.count(5), 0);
    }

    private static void promise2Region() {
        RegionThreads x = new RegionThreads();
        CHECKS.due("region(0, 0)", x.region(0, 0), -4);
        CHECKS.due("region(-1, 0)", x.region(-1, 0), -4);
        CHECKS.due("region(101, 0)", x.region(101, 0), -4);
        CHECKS.due("region(MIN, 0)", x.region(Integer.MIN_VALUE, 0), -4);
        CHECKS.due("region(5, -1)", x.region(5, -1), -4);
        CHECKS.due("region(5, 101)", x.region(5, 101), -4);
        CHECKS.due("region(5, MAX)", x.region(5, Integer.MAX_VALUE), -4);
        CHECKS.due("refused ones are not kept", x.count(0), 0);
        CHECKS.due("region(1, 0)", x.region(1, 0), 1);
        CHECKS.due("region(100, 100)", x.region(100, 100), 2);
        CHECKS.due("region(1, 100)", x.region(1, 100), 3);
        for (int number = 4; number <= 30; number++) {
            CHECKS.due("region(2, 0)", x.region(2, 0), number);
        }
        CHECKS.due("the 31st", x.region(2, 0), -1);
        CHECKS.due("the 31st, wrong", x.region(0, 0), -4);
        CHECKS.due("count(0)", x.count(0), 30);
        CHECKS.due("finished(30)", x.finished(30), 0);
        CHECKS.due("finished(31)", x.finished(31), -2);
        x.close();
        CHECKS.due("closed and full", x.region(2, 0), -5);
        CHECKS.due("closed and wrong", x.region(0, 0), -4);
    }

    private static void promise2Fails() {
        RegionThreads x = new RegionThreads();
        x.region(3, 1);
        x.region(3, 3);
        x.region(3, 4);
        CHECKS.due("fails at 1", Checks.turns(x, 1, 5), 0);
        CHECKS.due("fails at 3", Checks.turns(x, 2, 5), 2);
        CHECKS.due("fails behind its end", Checks.turns(x, 3, 5), 3);
        CHECKS.due("finished(1)", x.finished(1), 2);
        CHECKS.due("finished(2)", x.finished(2), 2);
        CHECKS.due("finished(3)", x.finished(3), 1);
        x.region(100, 100);
        CHECKS.due("fails at 100", Checks.turns(x, 4, 105), 99);
        CHECKS.due("finished(4)", x.finished(4), 2);
        x.region(100, 0);
        CHECKS.due("100 steps", Checks.turns(x, 5, 105), 100);
        CHECKS.due("finished(5)", x.finished(5), 1);
    }

    private static void promise3Answers() {
        RegionThreads x = new RegionThreads();
        x.region(3, 0);
        x.region(3, 0);
        CHECKS.due("waits(1, 1, 0)", x.waits(1, 1, 0), 1);
        CHECKS.due("waits(1, 3, 15)", x.waits(1, 3, 15), 2);
        CHECKS.due("the same again", x.waits(1, 3, 15), 3);
        CHECKS.due("another region's own", x.waits(2, 2, 3), 1);
    }

    private static void promise3Refusals() {
        RegionThreads x = new RegionThreads();
        x.region(3, 0);
        int[] noRegions = {0, -1, 2, 31, Integer.MIN_VALUE, Integer.MAX_VALUE};
        for (int region : noRegions) {
            CHECKS.due("waits(" + region + ", 99, 99)", x.waits(region, 99, 99), -2);
        }
        int[] noSteps = {0, -1, 4, Integer.MIN_VALUE, Integer.MAX_VALUE};
        for (int step : noSteps) {
            CHECKS.due("waits(1, " + step + ", 0)", x.waits(1, step, 0), -4);
        }
        int[] noEvents = {-1, 16, Integer.MIN_VALUE, Integer.MAX_VALUE};
        for (int on : noEvents) {
            CHECKS.due("waits(1, 1, " + on + ")", x.waits(1, 1, on), -4);
        }
        Checks.turns(x, 1, 2);
        CHECKS.due("a step before the latest", x.waits(1, 1, 0), -5);
        CHECKS.due("the latest step", x.waits(1, 2, 0), -5);
        CHECKS.due("a done step, wrong event", x.waits(1, 2, 16), -4);
        CHECKS.due("the next step", x.waits(1, 3, 0), 1);
        x.cancel(1);
        CHECKS.due("to be cancelled, but it goes on", x.waits(1, 3, 0), 2);
        Checks.turns(x, 1, 1);
        CHECKS.due("cancelled", x.waits(1, 3, 0), -5);
        CHECKS.due("cancelled, wrong step", x.waits(1, 4, 0), -4);
        x.region(3, 0);
        x.close();
        CHECKS.due("closed", x.waits(2, 1, 0), -5);
        CHECKS.due("closed, no such region", x.waits(3, 1, 0), -2);
    }

    private static void promise3Limit() {
        RegionThreads x = new RegionThreads();
        x.region(2, 0);
        for (int i = 1; i <= 20; i++) {
            CHECKS.due("wait " + i, x.waits(1, i == 1 ? 1 : 2, 7), i);
        }
        CHECKS.due("the 21st", x.waits(1, 2, 7), -1);
        CHECKS.due("the 21st, wrong", x.waits(1, 2, 16), -4);
        for (int i = 1; i <= 19; i++) {
            x.post(7);
        }
        CHECKS.due("one posting too few", Checks.turns(x, 1, 3), 1);
        CHECKS.due("a done step stands before the limit", x.waits(1, 1, 7), -5);
        CHECKS.due("taken waits are still had", x.waits(1, 2, 7), -1);
        x.post(7);
        CHECKS.due("all there", Checks.turns(x, 1, 1), 1);
        CHECKS.due("the 21st was not kept", x.finished(1), 1);
    }

    private static void promise3HoldsUp() {
        RegionThreads x = new RegionThreads();
        x.region(2, 0);
        x.waits(1, 2, 4);
        x.waits(1, 2, 3);
        x.waits(1, 1, 5);
        x.post(3);
        x.post(5);
        CHECKS.due("the told order holds", Checks.turns(x, 1, 3), 1);
        CHECKS.due("event 3 is behind event 4", x.count(13), 1);
        CHECKS.due("event 5 is taken", x.count(15), 0);
        x.post(4);
        CHECKS.due("both there", Checks.turns(x, 1, 1), 1);
        CHECKS.due("count(13)", x.count(13), 0);
        CHECKS.due("count(14)", x.count(14), 0);
    }

    private static void promise12Answers() {
        RegionThreads x = new RegionThreads();
        x.region(6, 0);
        x.region(6, 0);
        CHECKS.due("decision(1, 3)", x.decision(1, 3), 1);
        CHECKS.due("the same", x.decision(1, 3), 0);
        CHECKS.due("its second is taken", x.decision(1, 2), 0);
        CHECKS.due("its first is taken", x.decision(1, 4), 0);
        CHECKS.due("before it", x.decision(1, 1), 1);
        CHECKS.due("behind it, the last", x.decision(1, 5), 1);
        CHECKS.due("another region's own", x.decision(2, 3), 1);
        x.region(100, 0);
        CHECKS.due("decision(3, 99)", x.decision(3, 99), 1);
        CHECKS.due("decision(3, 98)", x.decision(3, 98), 0);
        CHECKS.due("decision(3, 100)", x.decision(3, 100), -4);
    }

    private static void promise12Refusals() {
        RegionThreads x = new RegionThreads();
        x.region(6, 0);
        int[] noRegions = {0, -1, 2, 31, Integer.MIN_VALUE, Integer.MAX_VALUE};
        for (int region : noRegions) {
            CHECKS.due("decision(" + region + ", 0)", x.decision(region, 0), -2);
        }
        int[] noSteps = {0, -1, 6, 7, Integer.MIN_VALUE, Integer.MAX_VALUE};
        for (int step : noSteps) {
            CHECKS.due("decision(1, " + step + ")", x.decision(1, step), -4);
        }
        x.decision(1, 5);
        CHECKS.due("the last step alone", x.decision(1, 6), -4);
        Checks.turns(x, 1, 2);
        CHECKS.due("a step before the latest", x.decision(1, 1), -5);
        CHECKS.due("the latest step", x.decision(1, 2), -5);
        CHECKS.due("the next step", x.decision(1, 3), 1);
        Checks.turns(x, 1, 1);
        CHECKS.due("done, and belongs to one", x.decision(1, 3), -5);
        Checks.turns(x, 1, 3);
        CHECKS.due("done", x.decision(1, 5), -5);
        CHECKS.due("done, wrong step", x.decision(1, 6), -4);
        x.region(1, 0);
        CHECKS.due("only one step", x.decision(2, 1), -4);
        x.region(3, 0);
        x.close();
        CHECKS.due("closed", x.decision(3, 1), -5);
    }

    private static void promise12NothingSplits() {
        RegionThreads x = new RegionThreads();
        x.region(4, 0);
        x.decision(1, 2);
        Checks.turns(x, 1, 2);
        x.cancel(1);
        CHECKS.due("the second step is done though", Checks.turns(x, 1, 2), 1);
        CHECKS.due("then it is cancelled", x.finished(1), 3);
        CHECKS.due("done(1)", x.done(1), 3);
    }

    private PlanTest() {
    }
}
