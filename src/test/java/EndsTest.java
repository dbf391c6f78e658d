/** Promises 8, 9, 10, 11, 13, 14 and 15: how regions end, and what is counted. */
public final class EndsTest {
    private static final Checks CHECKS = new Checks();

    public static void main(String[] args) {
        promise8Cancel();
        promise8AtPoints();
        promise8BeforeWaiting();
        promise9Cleaned();
        promise10Backed();
        promise10Units();
        promise11Quick();
        promise11Slow();
        promise11SlowRounds();
        promise11SlowTakesPostings();
        promise13Finished();
        promise14Close();
        promise15Count();
        promise15PassedOver();
        CHECKS.finish();
    }

    private static void promise8Cancel() {
        RegionThreads x = new RegionThreads();
        int[] noRegions = {0, -1, 1, 31, Integer.MIN_VALUE, Integer.MAX_VALUE};
        for (int region : noRegions) {
            CHECKS.due("cancel(" + region + ")", x.cancel(region), false);
        }
        x.region(3, 0);
        x.region(1, 0);
        x.region(1, 1);
        CHECKS.due("it goes on", x.cancel(1), true);
        CHECKS.due("told already", x.cancel(1), false);
        CHECKS.due("not before its turn", x.finished(1), 0);
        Checks.turns(x, 2, 1);
        CHECKS.due("done", x.cancel(2), false);
        Checks.turns(x, 3, 1);
        CHECKS.due("failed", x.cancel(3), false);
        CHECKS.due("another's turn", x.finished(1), 0);
        CHECKS.due("its turn: no step", Checks.turns(x, 1, 1), 0);
        CHECKS.due("cancelled", x.finished(1), 3);
        CHECKS.due("being cancelled is not passed over", x.count(4), 0);
        CHECKS.due("cancelled already", x.cancel(1), false);
        x.region(1, 0);
        x.close();
        CHECKS.due("closed", x.cancel(4), false);
    }

    private static void promise8AtPoints() {
        RegionThreads x = new RegionThreads();
        x.region(6, 0);
        x.decision(1, 3);
        x.waits(1, 4, 0);
        Checks.turns(x, 1, 3);
        CHECKS.due("between the two steps", x.cancel(1), true);
        CHECKS.due("it waits on", Checks.turns(x, 1, 1), 0);
        CHECKS.due("it goes on", x.finished(1), 0);
        CHECKS.due("told so yet", x.cancel(1), false);
        x.post(0);
        CHECKS.due("the second step", Checks.turns(x, 1, 1), 1);
        CHECKS.due("still told", x.cancel(1), false);
        CHECKS.due("now it may", Checks.turns(x, 1, 1), 0);
        CHECKS.due("cancelled", x.finished(1), 3);
        CHECKS.due("nothing is open", x.backed(1), 0);

        x.region(2, 0);
        x.decision(2, 1);
        Checks.turns(x, 2, 1);
        x.cancel(2);
        Checks.turns(x, 2, 1);
        CHECKS.due("the second step is the last: done", x.finished(2), 1);

        x.region(3, 3);
        x.decision(3, 2);
        Checks.turns(x, 3, 2);
        x.cancel(3);
        Checks.turns(x, 3, 1);
        CHECKS.due("it fails between them", x.finished(3), 2);
        CHECKS.due("with its open unit", x.backed(3), 2);

        x.region(4, 0);
        x.decision(4, 2);
        Checks.turns(x, 4, 1);
        x.cancel(4);
        Checks.turns(x, 4, 1);
        CHECKS.due("ahead of a decision it may", x.finished(4), 3);
        CHECKS.due("done(4)", x.done(4), 1);
    }

    private static void promise8BeforeWaiting() {
        RegionThreads x = new RegionThreads();
        x.region(1, 0);
        x.waits(1, 1, 0);
        x.post(0);
        x.cancel(1);
        Checks.turns(x, 1, 1);
        CHECKS.due("cancelled", x.finished(1), 3);
        CHECKS.due("takes no posting", x.count(10), 1);
        x.region(2, 1);
        x.cancel(2);
        Checks.turns(x, 2, 1);
        CHECKS.due("cancelled, not failed", x.finished(2), 3);
    }

    private static void promise9Cleaned() {
        RegionThreads x = new RegionThreads();
        int[] noRegions = {0, -1, 1, 31, Integer.MIN_VALUE, Integer.MAX_VALUE};
        for (int region : noRegions) {
            CHECKS.due("cleaned(" + region + ")", x.cleaned(region), -2);
        }
        x.region(2, 0);
        x.region(2, 2);
        x.region(2, 0);
        x.region(2, 0);
        x.region(2, 0);
        Checks.turns(x, 1, 1);
        CHECKS.due("it goes on", x.cleaned(1), 0);
        x.cancel(3);
        CHECKS.due("only told", x.cleaned(3), 0);
        for (int region = 1; region <= 3; region++) {
            Checks.turns(x, region, 4);
        }
        CHECKS.due("done", x.cleaned(1), 1);
        CHECKS.due("failed", x.cleaned(2), 1);
        CHECKS.due("cancelled", x.cleaned(3), 1);
        x.waits(4, 1, 0);
        x.waits(5, 2, 0);
        x.decision(5, 1);
        x.shutdown(false);
        CHECKS.due("cancelled by shutdown", x.cleaned(4), 1);
        CHECKS.due("left by shutdown", x.cleaned(5), 0);
        x.region(2, 0);
        x.shutdown(true);
        CHECKS.due("left at once", x.cleaned(6), 0);
        x.region(2, 0);
        x.close();
        CHECKS.due("left by close", x.cleaned(7), 0);
        for (int region = 1; region <= 4; region++) {
            CHECKS.due("once alone: " + region, x.cleaned(region), 1);
        }
    }

    private static void promise10Backed() {
        RegionThreads x = new RegionThreads();
        int[] noRegions = {0, -1, 1, 31, Integer.MIN_VALUE, Integer.MAX_VALUE};
        for (int region : noRegions) {
            CHECKS.due("backed(" + region + ")", x.backed(region), -2);
        }
        x.region(5, 4);
        x.region(5, 0);
        x.region(5, 0);
        x.region(5, 0);
        Checks.turns(x, 1, 3);
        CHECKS.due("it goes on", x.backed(1), 0);
        Checks.turns(x, 1, 1);
        CHECKS.due("failed", x.backed(1), 3);
        Checks.turns(x, 2, 2);
        x.cancel(2);
        Checks.turns(x, 2, 1);
        CHECKS.due("cancelled", x.backed(2), 2);
        Checks.turns(x, 3, 5);
        CHECKS.due("done", x.backed(3), 0);
        Checks.turns(x, 4, 2);
        x.close();
        CHECKS.due("left", x.backed(4), 0);
        CHECKS.due("they stay in the log", x.count(2), 12);
    }

    private static void promise10Units() {
        RegionThreads x = new RegionThreads();
        x.region(9, 9);
        x.decision(1, 2);
        x.decision(1, 5);
        Checks.turns(x, 1, 9);
        CHECKS.due("behind the latest end, step 6", x.backed(1), 2);
        x.region(9, 6);
        x.decision(2, 2);
        x.decision(2, 5);
        Checks.turns(x, 2, 9);
        CHECKS.due("a decision's first step is open", x.backed(2), 2);
        x.region(9, 4);
        x.decision(3, 2);
        Checks.turns(x, 3, 9);
        CHECKS.due("just behind an end", x.backed(3), 0);
        x.region(9, 3);
        x.decision(4, 7);
        Checks.turns(x, 4, 9);
        CHECKS.due("a decision ahead", x.backed(4), 2);
    }

    private static void promise11Quick() {
        RegionThreads x = new RegionThreads();
        x.region(5, 0);
        x.region(5, 0);
        x.region(5, 0);
        x.region(5, 0);
        x.region(1, 0);
        x.region(5, 3);
        x.decision(2, 1);
        x.decision(3, 1);
        Checks.turns(x, 1, 2);
        Checks.turns(x, 2, 2);
        Checks.turns(x, 3, 1);
        Checks.turns(x, 5, 1);
        Checks.turns(x, 6, 3);
        x.cancel(1);
        x.turn(1);
        x.turn(4);
        CHECKS.due("open with a step: 1 and 3", x.shutdown(true), 2);
        CHECKS.due("the schedule is empty", x.count(1), 0);
        CHECKS.due("its turns were not passed over", x.count(4), 0);
        for (int region = 1; region <= 4; region++) {
            CHECKS.due("left: " + region, x.finished(region), 4);
            CHECKS.due("not cleaned: " + region, x.cleaned(region), 0);
            CHECKS.due("not backed out: " + region, x.backed(region), 0);
        }
        CHECKS.due("done stays", x.finished(5), 1);
        CHECKS.due("failed stays", x.finished(6), 2);
        CHECKS.due("no step was done", x.count(2), 8);
        CHECKS.due("again", x.shutdown(true), 0);
        CHECKS.due("it is not closed", x.count(5), 0);
        CHECKS.due("a new region", x.region(1, 0), 7);
        CHECKS.due("goes on", Checks.turns(x, 7, 1), 1);
        x.region(2, 0);
        Checks.turns(x, 8, 1);
        CHECKS.due("the last region's unit counts, earlier ones no more", x.shutdown(true), 1);
        x.close();
        CHECKS.due("closed, quick", x.shutdown(true), -5);
        CHECKS.due("closed, slowly", x.shutdown(false), -5);
    }

    private static void promise11Slow() {
        RegionThreads x = new RegionThreads();
        x.region(3, 0);
        x.region(3, 3);
        x.region(4, 0);
        x.region(4, 0);
        x.region(4, 0);
        x.region(3, 0);
        x.waits(3, 4, 0);
        x.decision(3, 1);
        x.waits(4, 4, 0);
        x.decision(4, 3);
        x.waits(5, 3, 0);
        x.decision(5, 1);
        x.cancel(6);
        x.turn(1);
        x.turn(3);
        CHECKS.due("only region 4 is between", x.shutdown(false), 1);
        int[] states = {1, 2, 3, 4, 3, 3};
        int[] cleaned = {1, 1, 1, 0, 1, 1};
        int[] backed = {0, 2, 1, 0, 0, 0};
        int[] done = {3, 2, 3, 3, 2, 0};
        for (int i = 0; i < 6; i++) {
            CHECKS.due("slowly: finished(" + (i + 1) + ")", x.finished(i + 1), states[i]);
            CHECKS.due("slowly: cleaned(" + (i + 1) + ")", x.cleaned(i + 1), cleaned[i]);
            CHECKS.due("slowly: backed(" + (i + 1) + ")", x.backed(i + 1), backed[i]);
            CHECKS.due("slowly: done(" + (i + 1) + ")", x.done(i + 1), done[i]);
        }
        CHECKS.due("the schedule is empty", x.count(1), 0);
        CHECKS.due("given turns are of no schedule", x.count(4), 0);
        CHECKS.due("again", x.shutdown(false), 0);
        CHECKS.due("it is not closed", x.region(1, 0), 7);
    }

    private static void promise11SlowRounds() {
        RegionThreads x = new RegionThreads();
        x.region(3, 0);
        x.region(2, 2);
        x.region(1, 0);
        x.region(2, 0);
        CHECKS.due("nothing is left", x.shutdown(false), 0);
        CHECKS.due("round by round", Checks.logOf(x), "1001 2001 3001 4001 1002 4002 1003");
    }

    private static void promise11SlowTakesPostings() {
        RegionThreads x = new RegionThreads();
        x.region(2, 0);
        x.region(2, 0);
        x.region(1, 0);
        x.waits(1, 2, 0);
        x.waits(1, 2, 1);
        x.waits(2, 1, 0);
        x.waits(3, 1, 1);
        x.post(0);
        x.post(1);
        CHECKS.due("nothing is left", x.shutdown(false), 0);
        CHECKS.due("region 2 takes 0 in the first round, 3 takes 1", Checks.logOf(x), "1001 2001 3001 2002");
        CHECKS.due("region 1 is cancelled", x.finished(1), 3);
        CHECKS.due("with its step", x.backed(1), 1);

        RegionThreads y = new RegionThreads();
        y.region(2, 1);
        y.region(2, 0);
        y.cancel(2);
        y.region(2, 0);
        y.waits(3, 1, 4);
        y.waits(3, 1, 5);
        y.post(4);
        CHECKS.due("a round of ends alone", y.shutdown(false), 0);
        CHECKS.due("failed", y.finished(1), 2);
        CHECKS.due("cancelled", y.finished(2), 3);
        CHECKS.due("cancelled at the end", y.finished(3), 3);
        CHECKS.due("what it took stays taken", y.count(14), 0);
    }

    private static void promise13Finished() {
        RegionThreads x = new RegionThreads();
        int[] noRegions = {0, -1, 1, 31, Integer.MIN_VALUE, Integer.MAX_VALUE};
        for (int region : noRegions) {
            CHECKS.due("finished(" + region + ")", x.finished(region), -2);
        }
        x.region(2, 0);
        x.region(2, 2);
        x.region(2, 0);
        x.region(2, 0);
        CHECKS.due("new", x.finished(1), 0);
        Checks.turns(x, 1, 1);
        CHECKS.due("it goes on", x.finished(1), 0);
        Checks.turns(x, 1, 1);
        CHECKS.due("behind the last one: done at once", x.finished(1), 1);
        Checks.turns(x, 2, 2);
        CHECKS.due("failed", x.finished(2), 2);
        x.cancel(3);
        Checks.turns(x, 3, 1);
        CHECKS.due("cancelled", x.finished(3), 3);
        x.close();
        CHECKS.due("left", x.finished(4), 4);
        CHECKS.due("done stays", x.finished(1), 1);
        CHECKS.due("failed stays", x.finished(2), 2);
        CHECKS.due("cancelled stays", x.finished(3), 3);
    }

    private static void promise14Close() {
        RegionThreads x = new RegionThreads();
        x.region(2, 0);
        x.region(1, 0);
        x.region(2, 0);
        x.region(1, 1);
        Checks.turns(x, 2, 1);
        Checks.turns(x, 4, 1);
        x.post(3);
        x.turn(1);
        CHECKS.due("regions 1 and 3, stepped or not", x.close(), 2);
        CHECKS.due("again", x.close(), -5);
        CHECKS.due("the schedule is empty", x.count(1), 0);
        CHECKS.due("count(3)", x.count(3), 0);
        CHECKS.due("count(5)", x.count(5), 1);
        CHECKS.due("count(0)", x.count(0), 4);
        CHECKS.due("postings stay", x.count(13), 1);
        CHECKS.due("passed over", x.count(4), 0);
        CHECKS.due("finished(1)", x.finished(1), 4);
        CHECKS.due("region", x.region(1, 0), -5);
        CHECKS.due("post", x.post(0), -5);
        CHECKS.due("run", x.run(), -5);
        CHECKS.due("cancel", x.cancel(1), false);
        CHECKS.due("shutdown", x.shutdown(true), -5);
    }

    private static void promise15Count() {
        RegionThreads x = new RegionThreads();
        int[] nothing = {-1, 6, 7, 8, 9, 26, 27, Integer.MIN_VALUE, Integer.MIN_VALUE + 15, Integer.MAX_VALUE};
        for (int what : nothing) {
            CHECKS.due("count(" + what + ")", x.count(what), -1);
        }
        x.region(2, 0);
        x.region(1, 0);
        x.region(1, 0);
        CHECKS.due("regions", x.count(0), 3);
        CHECKS.due("those that go on", x.count(3), 3);
        x.turn(1);
        x.turn(2);
        CHECKS.due("turns", x.count(1), 2);
        x.run();
        CHECKS.due("no turns", x.count(1), 0);
        CHECKS.due("entries", x.count(2), 2);
        CHECKS.due("two go on", x.count(3), 2);
        CHECKS.due("still three regions", x.count(0), 3);
        CHECKS.due("open", x.count(5), 0);
        for (int on = 0; on < 16; on++) {
            for (int i = 0; i <= on; i++) {
                x.post(on);
            }
        }
        for (int on = 0; on < 16; on++) {
            CHECKS.due("count(" + (10 + on) + ")", x.count(10 + on), on + 1);
        }
    }

    private static void promise15PassedOver() {
        RegionThreads x = new RegionThreads();
        x.region(1, 0);
        x.region(2, 0);
        x.waits(2, 1, 0);
        Checks.turns(x, 1, 3);
        CHECKS.due("of one that is done", x.count(4), 2);
        Checks.turns(x, 2, 2);
        CHECKS.due("in all, with waiting ones", x.count(4), 4);
        x.shutdown(true);
        Checks.turns(x, 2, 1);
        CHECKS.due("of one that is left", x.count(4), 5);
        x.turn(2);
        x.close();
        CHECKS.due("emptied turns are not passed over", x.count(4), 5);
    }

    private EndsTest() {
    }
}
