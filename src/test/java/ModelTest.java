import java.util.Random;

/** All promises at once: random runs of at most 512 calls, compared call by call with the Model. */
public final class ModelTest {
    private static final int RUNS = 3000;
    private static final int CALLS = 512;
    private static final int[] WILD = {
        Integer.MIN_VALUE, Integer.MIN_VALUE + 1, -1000, -1, 0, 16, 26, 31, 100, 101, 102, Integer.MAX_VALUE - 1, Integer.MAX_VALUE
    };

    private final Checks checks;
    private final Random random;
    private final int mostRegions;
    private final int mostSteps;
    private final int mostEvents;
    private final RegionThreads x = new RegionThreads();
    private final Model model = new Model();

    private ModelTest(Checks checks, int seed) {
        this.checks = checks;
        this.random = new Random(seed);
        this.mostRegions = seed % 3 == 0 ? 32 : 2 + seed % 5;
        this.mostSteps = seed % 4 == 0 ? 100 : 2 + seed % 7;
        this.mostEvents = seed % 2 == 0 ? 16 : 3;
    }

    public static void main(String[] args) {
        Checks checks = new Checks();
        for (int seed = 1; seed <= RUNS && !checks.anyWrong(); seed++) {
            new ModelTest(checks, seed).play(seed);
        }
        checks.finish();
    }

    private void play(int seed) {
        for (int i = 0; i < CALLS && !checks.anyWrong(); i++) {
            String where = "seed " + seed + ", call " + i + ": ";
            if (model.count(0) < mostRegions && random.nextInt(20) == 0) {
                int steps = argument(1, mostSteps);
                int failsAt = random.nextInt(3) == 0 ? argument(0, mostSteps) : 0;
                checks.due(where + "region(" + steps + ", " + failsAt + ")", x.region(steps, failsAt), model.region(steps, failsAt));
            } else {
                callOne(where, random.nextInt(100));
            }
        }
        compareAll("seed " + seed + ", at the end: ");
    }

    private void callOne(String where, int kind) {
        int region = argument(1, Math.max(1, model.count(0)));
        int step = argument(1, mostSteps);
        int on = argument(0, mostEvents - 1);
        if (kind < 40) {
            x.turn(region);
            model.turn(region);
        } else if (kind < 50) {
            checks.due(where + "waits(" + region + ", " + step + ", " + on + ")", x.waits(region, step, on), model.waits(region, step, on));
        } else if (kind < 60) {
            checks.due(where + "post(" + on + ")", x.post(on), model.post(on));
        } else if (kind < 70) {
            checks.due(where + "decision(" + region + ", " + step + ")", x.decision(region, step), model.decision(region, step));
        } else if (kind < 78) {
            checks.due(where + "run()", x.run(), model.run());
        } else if (kind < 80) {
            checks.due(where + "cancel(" + region + ")", x.cancel(region), model.cancel(region));
        } else if (kind == 80 && random.nextInt(3) == 0) {
            boolean quick = random.nextInt(3) == 0;
            checks.due(where + "shutdown(" + quick + ")", x.shutdown(quick), model.shutdown(quick));
        } else if (kind == 81 && random.nextInt(5) == 0) {
            checks.due(where + "close()", x.close(), model.close());
        } else {
            look(where, region, argument(0, 26), argument(0, model.count(2)));
        }
    }

    private void look(String where, int region, int what, int i) {
        checks.due(where + "log(" + i + ")", x.log(i), model.log(i));
        checks.due(where + "count(" + what + ")", x.count(what), model.count(what));
        checks.due(where + "cleaned(" + region + ")", x.cleaned(region), model.cleaned(region));
        checks.due(where + "backed(" + region + ")", x.backed(region), model.backed(region));
        checks.due(where + "finished(" + region + ")", x.finished(region), model.finished(region));
        checks.due(where + "done(" + region + ")", x.done(region), model.done(region));
    }

    private void compareAll(String where) {
        for (int region = 0; region <= 31; region++) {
            look(where, region, region, region);
        }
        for (int i = 0; i <= model.count(2); i++) {
            checks.due(where + "log(" + i + ")", x.log(i), model.log(i));
        }
    }

    private int argument(int least, int most) {
        if (random.nextInt(25) == 0) {
            return WILD[random.nextInt(WILD.length)];
        }
        return least + random.nextInt(most - least + 1);
    }
}
