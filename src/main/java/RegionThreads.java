import java.util.Arrays;

/**
 * Regions that do their steps when a schedule's turn comes to them. The numbered promises that the
 * methods keep stand in the project's document.
 */
public final class RegionThreads {
    public static final int NONE = -1;

    private static final int NO_SUCH_REGION = -2;
    private static final int WRONG_ARGUMENT = -4;
    private static final int TOO_LATE = -5;

    private static final int MOST_REGIONS = 30;
    private static final int MOST_STEPS = 100;
    private static final int MOST_WAITS = 20;
    private static final int MOST_TURNS = 600;
    private static final int EVENT_KINDS = 16;
    private static final int LOG_FACTOR = 1000;
    private static final int FIRST_EVENT_COUNT = 10;

    // Every round but the last does a step or ends a region, so this can't be reached.
    private static final int MOST_ROUNDS = MOST_REGIONS * (MOST_STEPS + 1) + 1;

    private static final int GOES_ON = 0;
    private static final int DONE = 1;
    private static final int FAILED = 2;
    private static final int CANCELLED = 3;
    private static final int LEFT = 4;

    private static final int PASSED_OVER = 0;
    private static final int STEPPED = 1;
    private static final int ENDED = 2;

    private final Region[] regions = new Region[MOST_REGIONS];
    private final Events events = new Events();
    private final Row schedule = new Row(MOST_TURNS);
    private final Row entries = new Row(MOST_REGIONS * MOST_STEPS);
    private int regionCount;
    private int turnsPassedOver;
    private boolean closed;

    public RegionThreads() {
    }

    public int region(int steps, int failsAt) {
        if (steps < 1 || steps > MOST_STEPS || failsAt < 0 || failsAt > MOST_STEPS) {
            return WRONG_ARGUMENT;
        }
        if (closed) {
            return TOO_LATE;
        }
        if (regionCount >= MOST_REGIONS) {
            return NONE;
        }
        regions[regionCount] = new Region(steps, failsAt);
        regionCount++;
        return regionCount;
    }

    public int waits(int region, int step, int on) {
        Region found = find(region);
        if (found == null) {
            return NO_SUCH_REGION;
        }
        if (step < 1 || step > found.steps || !isEvent(on)) {
            return WRONG_ARGUMENT;
        }
        if (!found.isAheadOf(step)) {
            return TOO_LATE;
        }
        return found.addWait(step, on) ? found.waitCount : NONE;
    }

    public int post(int on) {
        if (!isEvent(on)) {
            return WRONG_ARGUMENT;
        }
        if (closed) {
            return TOO_LATE;
        }
        events.addPosting(on);
        return events.untaken(on);
    }

    public void turn(int region) {
        if (closed || find(region) == null) {
            return;
        }
        schedule.append(region);
    }

    public int run() {
        if (closed) {
            return TOO_LATE;
        }
        int stepsDone = 0;
        for (int i = 0; i < schedule.length; i++) {
            int outcome = giveTurn(schedule.at(i));
            if (outcome == STEPPED) {
                stepsDone++;
            } else if (outcome == PASSED_OVER) {
                turnsPassedOver++;
            }
        }
        schedule.makeEmpty();
        return stepsDone;
    }

    public int log(int i) {
        return entries.at(i);
    }

    public boolean cancel(int region) {
        Region found = find(region);
        if (closed || found == null || !found.goesOn() || found.toBeCancelled) {
            return false;
        }
        found.toBeCancelled = true;
        return true;
    }

    public int cleaned(int region) {
        Region found = find(region);
        return found == null ? NO_SUCH_REGION : found.timesCleaned;
    }

    public int backed(int region) {
        Region found = find(region);
        return found == null ? NO_SUCH_REGION : found.stepsBackedOut;
    }

    public int shutdown(boolean quick) {
        if (closed) {
            return TOO_LATE;
        }
        schedule.makeEmpty();
        if (!quick) {
            giveRounds();
            cancelThoseThatMay();
        }
        int unitsLeft = countOpenUnits();
        leaveAll();
        return unitsLeft;
    }

    public int decision(int region, int step) {
        Region found = find(region);
        if (found == null) {
            return NO_SUCH_REGION;
        }
        if (step < 1 || step > found.steps - 1) {
            return WRONG_ARGUMENT;
        }
        if (!found.isAheadOf(step)) {
            return TOO_LATE;
        }
        return found.addDecision(step) ? 1 : 0;
    }

    public int finished(int region) {
        Region found = find(region);
        return found == null ? NO_SUCH_REGION : found.state;
    }

    public int close() {
        if (closed) {
            return TOO_LATE;
        }
        closed = true;
        schedule.makeEmpty();
        int regionsLeft = countGoingOn();
        leaveAll();
        return regionsLeft;
    }

    public int count(int what) {
        switch (what) {
            case 0:
                return regionCount;
            case 1:
                return schedule.length;
            case 2:
                return entries.length;
            case 3:
                return countGoingOn();
            case 4:
                return turnsPassedOver;
            case 5:
                return closed ? 1 : 0;
            default:
                break;
        }
        int on = what - FIRST_EVENT_COUNT;
        return isEvent(on) ? events.untaken(on) : NONE;
    }

    public int done(int region) {
        Region found = find(region);
        return found == null ? NO_SUCH_REGION : found.stepsDone;
    }

    private Region find(int number) {
        if (number < 1 || number > regionCount || number > MOST_REGIONS) {
            return null;
        }
        return regions[number - 1];
    }

    private static boolean isEvent(int on) {
        return on >= 0 && on < EVENT_KINDS;
    }

    private int giveTurn(int number) {
        Region found = find(number);
        if (found == null) {
            return PASSED_OVER;
        }
        int outcome = found.takeTurn(events);
        if (outcome == STEPPED) {
            entries.append(LOG_FACTOR * number + found.stepsDone);
        }
        return outcome;
    }

    private void giveRounds() {
        boolean moved = true;
        for (int round = 0; moved && round < MOST_ROUNDS; round++) {
            moved = giveOneRound();
        }
    }

    private boolean giveOneRound() {
        boolean moved = false;
        for (int number = 1; number <= regionCount; number++) {
            if (giveTurn(number) != PASSED_OVER) {
                moved = true;
            }
        }
        return moved;
    }

    private void cancelThoseThatMay() {
        for (int number = 1; number <= regionCount; number++) {
            Region found = find(number);
            if (found != null && found.goesOn() && !found.isInsideDecision()) {
                found.backOut(CANCELLED);
            }
        }
    }

    private int countOpenUnits() {
        int open = 0;
        for (int number = 1; number <= regionCount; number++) {
            Region found = find(number);
            if (found != null && found.goesOn() && found.openSteps() > 0) {
                open++;
            }
        }
        return open;
    }

    private int countGoingOn() {
        int going = 0;
        for (int number = 1; number <= regionCount; number++) {
            Region found = find(number);
            if (found != null && found.goesOn()) {
                going++;
            }
        }
        return going;
    }

    private void leaveAll() {
        for (int number = 1; number <= regionCount; number++) {
            Region found = find(number);
            if (found != null && found.goesOn()) {
                found.state = LEFT;
            }
        }
    }

    /** One region: its plan (steps, failing, waits, decisions) and how far it has come. */
    private static final class Region {
        private static final int FIRST_HALF = 1;
        private static final int SECOND_HALF = 2;

        final int steps;
        final int failsAt;
        int state = GOES_ON;
        int stepsDone;
        int latestEnd;
        int stepsBackedOut;
        int timesCleaned;
        boolean toBeCancelled;
        int waitCount;
        final int[] waitStep = new int[MOST_WAITS];
        final int[] waitEvent = new int[MOST_WAITS];
        final boolean[] waitTaken = new boolean[MOST_WAITS];
        final int[] half = new int[MOST_STEPS + 1];

        Region(int steps, int failsAt) {
            this.steps = steps;
            this.failsAt = failsAt;
        }

        boolean goesOn() {
            return state == GOES_ON;
        }

        boolean isAheadOf(int step) {
            return goesOn() && step > stepsDone;
        }

        boolean isInsideDecision() {
            return halfOf(stepsDone) == FIRST_HALF;
        }

        int openSteps() {
            return stepsDone - latestEnd;
        }

        boolean addWait(int step, int on) {
            if (waitCount >= MOST_WAITS) {
                return false;
            }
            waitStep[waitCount] = step;
            waitEvent[waitCount] = on;
            waitCount++;
            return true;
        }

        boolean addDecision(int step) {
            if (step < 1 || step >= MOST_STEPS || halfOf(step) != 0 || halfOf(step + 1) != 0) {
                return false;
            }
            half[step] = FIRST_HALF;
            half[step + 1] = SECOND_HALF;
            return true;
        }

        int takeTurn(Events events) {
            if (!goesOn()) {
                return PASSED_OVER;
            }
            if (toBeCancelled && !isInsideDecision()) {
                backOut(CANCELLED);
                return ENDED;
            }
            int next = stepsDone + 1;
            if (!takeWaitsAt(next, events)) {
                return PASSED_OVER;
            }
            if (next == failsAt) {
                backOut(FAILED);
                return ENDED;
            }
            doStep(next);
            return STEPPED;
        }

        void backOut(int endState) {
            stepsBackedOut = openSteps();
            endAs(endState);
        }

        private void doStep(int step) {
            stepsDone = step;
            if (halfOf(step) == SECOND_HALF) {
                latestEnd = step;
            }
            if (step >= steps) {
                endAs(DONE);
            }
        }

        private void endAs(int endState) {
            state = endState;
            timesCleaned++;
        }

        // What was taken stays taken when a later wait holds the region up.
        private boolean takeWaitsAt(int step, Events events) {
            for (int i = 0; i < waitCount && i < MOST_WAITS; i++) {
                if (waitStep[i] == step && !waitTaken[i]) {
                    if (!events.takePosting(waitEvent[i])) {
                        return false;
                    }
                    waitTaken[i] = true;
                }
            }
            return true;
        }

        private int halfOf(int step) {
            return step < 0 || step > MOST_STEPS ? 0 : half[step];
        }
    }

    /** The postings of each event that no waiting has taken. */
    private static final class Events {
        private final int[] postings = new int[EVENT_KINDS];

        void addPosting(int on) {
            if (isEvent(on)) {
                postings[on]++;
            }
        }

        boolean takePosting(int on) {
            if (!isEvent(on) || postings[on] <= 0) {
                return false;
            }
            postings[on]--;
            return true;
        }

        int untaken(int on) {
            return isEvent(on) ? postings[on] : 0;
        }
    }

    /** A row of numbers that starts small and grows up to a limit, so that a new object costs little. */
    private static final class Row {
        private static final int START_ROOM = 16;

        private final int limit;
        private int[] numbers = new int[START_ROOM];
        int length;

        Row(int limit) {
            this.limit = limit;
        }

        void append(int number) {
            if (length >= limit) {
                return;
            }
            if (length >= numbers.length) {
                numbers = Arrays.copyOf(numbers, 2 * numbers.length);
            }
            numbers[length] = number;
            length++;
        }

        int at(int i) {
            return i < 0 || i >= length || i >= numbers.length ? 0 : numbers[i];
        }

        void makeEmpty() {
            length = 0;
        }
    }
}
