/** Promises 4, 5, 6, 7 and 16: postings, the schedule, going through it, the log, steps done. */
public final class TurnsTest {
    private static final Checks CHECKS = new Checks();

    public static void main(String[] args) {
        promise4Post();
        promise4EachPostingOnce();
        promise5Turn();
        promise6Run();
        promise6Order();
        promise6WaitsAreLookedAtBeforeFailing();
        promise7Log();
        promise16Done();
        CHECKS.finish();
    }

    private static void promise4Post() {
        RegionThreads x = new RegionThreads();
        int[] noEvents = {-1, 16, Integer.MIN_VALUE, Integer.MAX_VALUE};
        for (int on : noEvents) {
            CHECKS.due("post(" + on + ")", x.post(on), -4);
        }
        CHECKS.due("post(0)", x.post(0), 1);
        CHECKS.due("post(0)", x.post(0), 2);
        CHECKS.due("post(15)", x.post(15), 1);
        CHECKS.due("count(10)", x.count(10), 2);
        CHECKS.due("count(25)", x.count(25), 1);
        x.region(1, 0);
        x.waits(1, 1, 0);
        Checks.turns(x, 1, 1);
        CHECKS.due("one of three is taken", x.post(0), 2);
        x.shutdown(true);
        CHECKS.due("behind a shutdown", x.post(0), 3);
        x.close();
        CHECKS.due("closed", x.post(0), -5);
        CHECKS.due("closed, wrong", x.post(16), -4);
        CHECKS.due("closed: nothing posted", x.count(10), 3);
    }

    private static void promise4EachPostingOnce() {
        RegionThreads x = new RegionThreads();
        x.region(1, 0);
        x.region(1, 0);
        x.waits(1, 1, 2);
        x.waits(2, 1, 2);
        x.post(2);
        x.turn(2);
        x.turn(1);
        CHECKS.due("one posting, two waiting", x.run(), 1);
        CHECKS.due("the first turn takes it", x.finished(2), 1);
        CHECKS.due("the other waits on", x.finished(1), 0);
    }

    private static void promise5Turn() {
        RegionThreads x = new RegionThreads();
        int[] noRegions = {0, -1, 1, 31, Integer.MIN_VALUE, Integer.MAX_VALUE};
        for (int region : noRegions) {
            x.turn(region);
        }
        CHECKS.due("turns of no region", x.count(1), 0);
        x.region(2, 0);
        CHECKS.due("a region made later", x.run(), 0);
        CHECKS.due("nothing was passed over", x.count(4), 0);
        x.turn(1);
        x.turn(1);
        CHECKS.due("turns in the schedule", x.count(1), 2);
        CHECKS.due("nothing is done before run", x.done(1), 0);
        x.run();
        x.turn(1);
        CHECKS.due("a turn of a region that is done", x.count(1), 1);
        x.close();
        x.turn(1);
        CHECKS.due("closed", x.count(1), 0);
    }

    private static void promise6Run() {
        RegionThreads x = new RegionThreads();
        CHECKS.due("no turns", x.run(), 0);
        x.region(3, 0);
        x.turn(1);
        x.turn(1);
        CHECKS.due("two", x.run(), 2);
        CHECKS.due("gone", x.count(1), 0);
        CHECKS.due("no turns left", x.run(), 0);
        CHECKS.due("its last, and one turn too many", Checks.turns(x, 1, 2), 1);
        CHECKS.due("passed over", x.count(4), 1);
        CHECKS.due("done", x.finished(1), 1);
        x.region(3, 0);
        x.turn(2);
        x.close();
        CHECKS.due("closed", x.run(), -5);
        CHECKS.due("closed: no step", x.done(2), 0);
    }

    private static void promise6Order() {
        RegionThreads x = new RegionThreads();
        x.region(3, 0);
        x.region(2, 2);
        x.region(2, 0);
        int[] turns = {3, 1, 2, 1, 2, 2, 3, 1};
        for (int region : turns) {
            x.turn(region);
        }
        CHECKS.due("failing is no step", x.run(), 6);
        CHECKS.due("the log", Checks.logOf(x), "3001 1001 2001 1002 3002 1003");
        CHECKS.due("passed over: one behind the failing", x.count(4), 1);
    }

    private static void promise6WaitsAreLookedAtBeforeFailing() {
        RegionThreads x = new RegionThreads();
        x.region(2, 2);
        x.waits(1, 2, 9);
        Checks.turns(x, 1, 2);
        CHECKS.due("it waits", x.finished(1), 0);
        CHECKS.due("passed over", x.count(4), 1);
        x.post(9);
        CHECKS.due("then it fails", Checks.turns(x, 1, 1), 0);
        CHECKS.due("finished(1)", x.finished(1), 2);
        CHECKS.due("the posting is taken", x.count(19), 0);
        CHECKS.due("failing is not passed over", x.count(4), 1);
    }

    private static void promise7Log() {
        RegionThreads x = new RegionThreads();
        x.region(2, 0);
        x.region(3, 3);
        Checks.turns(x, 2, 3);
        Checks.turns(x, 1, 2);
        CHECKS.due("log(0)", x.log(0), 2001);
        CHECKS.due("log(1), backed out but there", x.log(1), 2002);
        CHECKS.due("log(2)", x.log(2), 1001);
        CHECKS.due("log(3)", x.log(3), 1002);
        CHECKS.due("log(4)", x.log(4), 0);
        CHECKS.due("log(-1)", x.log(-1), 0);
        CHECKS.due("log(MIN)", x.log(Integer.MIN_VALUE), 0);
        CHECKS.due("log(MAX)", x.log(Integer.MAX_VALUE), 0);
        x.close();
        CHECKS.due("closed: log(0)", x.log(0), 2001);
        CHECKS.due("closed: count(2)", x.count(2), 4);
    }

    private static void promise16Done() {
        RegionThreads x = new RegionThreads();
        int[] noRegions = {0, -1, 1, 31, Integer.MIN_VALUE, Integer.MAX_VALUE};
        for (int region : noRegions) {
            CHECKS.due("done(" + region + ")", x.done(region), -2);
        }
        x.region(4, 0);
        x.region(4, 3);
        CHECKS.due("none", x.done(1), 0);
        Checks.turns(x, 1, 3);
        CHECKS.due("three", x.done(1), 3);
        CHECKS.due("the other's own", x.done(2), 0);
        Checks.turns(x, 1, 3);
        CHECKS.due("all", x.done(1), 4);
        Checks.turns(x, 2, 3);
        CHECKS.due("the failing step is not done; backed out ones were", x.done(2), 2);
        x.close();
        CHECKS.due("closed", x.done(1), 4);
    }

    private TurnsTest() {
    }
}
