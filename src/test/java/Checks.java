import java.util.ArrayList;
import java.util.List;

/** Compares answers with the ones that are due, and ends a test's program with what it found. */
final class Checks {
    private int checked = 0;
    private int wrong = 0;

    void due(String call, int got, int want) {
        checked++;
        if (got != want) {
            wrong++;
            System.out.println(call + " answered " + got + ", due is " + want);
        }
    }

    void due(String call, boolean got, boolean want) {
        checked++;
        if (got != want) {
            wrong++;
            System.out.println(call + " answered " + got + ", due is " + want);
        }
    }

    void due(String call, String got, String want) {
        checked++;
        if (!got.equals(want)) {
            wrong++;
            System.out.println(call + " answered " + got + ", due is " + want);
        }
    }

    boolean anyWrong() {
        return wrong != 0;
    }

    void finish() {
        System.out.println(checked + " answers looked at, " + wrong + " not as due");
        if (wrong != 0) {
            System.exit(1);
        }
    }

    /** Gives a region so many turns in a row and goes through them. */
    static int turns(RegionThreads x, int region, int times) {
        for (int i = 0; i < times; i++) {
            x.turn(region);
        }
        return x.run();
    }

    /** The whole log as one text, so that an entry too many or in the wrong place shows. */
    static String logOf(RegionThreads x) {
        StringBuilder text = new StringBuilder();
        int entry = x.log(0);
        for (int i = 1; entry != 0; i++) {
            text.append(i == 1 ? "" : " ").append(entry);
            entry = x.log(i);
        }
        return text.toString();
    }

    /** Numbers that are not least .. most: the next ones, far ones, and ones with the low bits of a right one. */
    static List<Integer> outside(int least, int most) {
        int[] tried = {
            least - 1, most + 1, least - 2, most + 2, -least, -most, -1, 0, least - 256, most - 256, least + 256, most + 256,
            least + 65536, most - 65536, Integer.MIN_VALUE, Integer.MIN_VALUE + least, Integer.MIN_VALUE + most,
            Integer.MAX_VALUE, Integer.MAX_VALUE - 1
        };
        List<Integer> outside = new ArrayList<>();
        for (int number : tried) {
            if ((number < least || number > most) && !outside.contains(number)) {
                outside.add(number);
            }
        }
        return outside;
    }
}
