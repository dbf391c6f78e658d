/** Objects made the same way each time, for tests of what comes next. */
final class Starts {
    private Starts() {
    }

    static RegionThreads regions(int number, int steps) {
        RegionThreads x = new RegionThreads();
        for (int i = 0; i < number; i++) {
            x.region(steps, 0);
        }
        return x;
    }

    /**
     * Four regions of which none has ended: one of five steps that has done none, one that is to
     * be cancelled, one that is held up, one between a decision's steps; with postings and turns.
     */
    static RegionThreads busy() {
        RegionThreads x = new RegionThreads();
        x.region(5, 0);
        x.region(3, 3);
        x.region(4, 0);
        x.region(3, 0);
        x.waits(3, 1, 7);
        x.decision(4, 1);
        x.turn(4);
        x.run();
        x.cancel(2);
        x.post(0);
        x.post(15);
        x.turn(1);
        x.turn(3);
        x.turn(4);
        return x;
    }

    static RegionThreads closedEmpty() {
        RegionThreads x = new RegionThreads();
        x.close();
        return x;
    }

    static RegionThreads closed() {
        RegionThreads x = busy();
        x.close();
        return x;
    }

    /** One region of five steps that has done so many. */
    static RegionThreads stepped(int done) {
        RegionThreads x = regions(1, 5);
        Checks.turns(x, 1, done);
        return x;
    }

    /** Region 1, of five steps, is in this state; region 2 goes on. */
    static RegionThreads inState(int state) {
        RegionThreads x = new RegionThreads();
        x.region(5, state == 2 ? 3 : 0);
        if (state == 1) {
            Checks.turns(x, 1, 5);
        } else if (state == 2) {
            Checks.turns(x, 1, 3);
        } else if (state == 3) {
            Checks.turns(x, 1, 2);
            x.cancel(1);
            Checks.turns(x, 1, 1);
        } else if (state == 4) {
            Checks.turns(x, 1, 2);
            x.shutdown(true);
        }
        x.region(5, 0);
        return x;
    }

    /** Two regions of five steps; the first waits so many times for event 0 at its first step. */
    static RegionThreads withWaits(int waits) {
        RegionThreads x = regions(2, 5);
        for (int i = 0; i < waits; i++) {
            x.waits(1, 1, 0);
        }
        return x;
    }

    /** One region with one decision. */
    static RegionThreads decided(int steps, int step) {
        RegionThreads x = regions(1, steps);
        x.decision(1, step);
        return x;
    }
}
