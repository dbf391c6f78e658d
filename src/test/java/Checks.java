/** Compares answers with the ones that are due, and ends a test's program with what it found. */
final class Checks {
    private int checked = 0;
    private int wrong = 0;

    void due(String call, int got, int want) {
        checked++;
        if (got != want) {
            wrong++;
            System.out.println(call + " answered " + got + ", due is " + want);
        }
    }

    void due(String call, boolean got, boolean want) {
        checked++;
        if (got != want) {
            wrong++;
            System.out.println(call + " answered " + got + ", due is " + want);
        }
    }

    void due(String call, String got, String want) {
        checked++;
        if (!got.equals(want)) {
            wrong++;
            System.out.println(call + " answered " + got + ", due is " + want);
        }
    }

    boolean anyWrong() {
        return wrong != 0;
    }

    void finish() {
        System.out.println(checked + " answers looked at, " + wrong + " not as due");
        if (wrong != 0) {
            System.exit(1);
        }
    }

    /** Gives a region so many turns in a row and goes through them. */
    static int turns(RegionThreads x, int region, int times) {
        for (int i = 0; i < times; i++) {
            x.turn(region);
        }
        return x.run();
    }

    /** The whole log as one text, so that an entry too many or in the wrong place shows. */
    static String logOf(RegionThreads x) {
        StringBuilder text = new StringBuilder();
        for (int i = 0; x.log(i) != 0; i++) {
            text.append(i == 0 ? "" : " ").append(x.log(i));
        }
        return text.toString();
    }
}
