import java.util.function.Supplier;
import java.util.function.ToIntFunction;

/**
 * Shows that a refused call changes nothing: of two objects made alike, one gets the refused call, and
 * then both must answer the same to whatever follows. No object gets more than 512 calls.
 */
final class Twins {
    private Twins() {
    }

    static void refused(Checks checks, String call, Supplier<RegionThreads> maker, ToIntFunction<RegionThreads> refused, int want) {
        RegionThreads asked = maker.get();
        checks.due(call, refused.applyAsInt(asked), want);
        checks.due(call + " changes nothing", workOn(asked), workOn(maker.get()));
        RegionThreads told = maker.get();
        refused.applyAsInt(told);
        checks.due(call + " keeps nothing", tellMore(told), tellMore(maker.get()));
    }

    /** All that can be asked without a change. */
    static String seen(RegionThreads x) {
        StringBuilder text = new StringBuilder();
        for (int what = 0; what <= 25; what++) {
            text.append(x.count(what)).append(' ');
        }
        int regions = x.count(0);
        for (int region = 1; region <= regions; region++) {
            text.append("| ").append(x.finished(region)).append(' ').append(x.done(region)).append(' ');
            text.append(x.cleaned(region)).append(' ').append(x.backed(region)).append(' ');
        }
        return text.append("| ").append(Checks.logOf(x)).toString();
    }

    /** Turns and a slow end show what a kept wait, decision, cancelling, posting or turn would do. */
    private static String workOn(RegionThreads x) {
        StringBuilder text = new StringBuilder(seen(x));
        text.append(" run ").append(x.run());
        int regions = x.count(0);
        for (int region = 1; region <= regions; region++) {
            x.turn(region);
        }
        text.append(" run ").append(x.run());
        text.append(" shutdown ").append(x.shutdown(false));
        return text.append(' ').append(seen(x)).toString();
    }

    /** What is told next is answered by how much was told before. */
    private static String tellMore(RegionThreads x) {
        StringBuilder text = new StringBuilder();
        int regions = Math.min(3, x.count(0));
        for (int region = 1; region <= regions; region++) {
            for (int step = 1; step <= 5; step++) {
                text.append(x.waits(region, step, 0)).append(' ').append(x.decision(region, step)).append(' ');
            }
            text.append(x.cancel(region)).append(' ');
        }
        for (int on = 0; on < 16; on++) {
            text.append(x.post(on)).append(' ');
        }
        text.append(x.region(1, 0)).append(' ').append(x.close());
        return text.toString();
    }
}
