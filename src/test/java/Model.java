import java.util.ArrayList;
import java.util.List;
import java.util.TreeSet;

/**
 * A slow second reading of the document. It keeps histories (every posting, wait and step) and works
 * answers out of them, so that it shares no bookkeeping with the class under test.
 */
final class Model {
    private static final class Wait {
        int step;
        int on;
        boolean taken;
    }

    private static final class Area {
        int number;
        int steps;
        int failsAt;
        int state;
        boolean told;
        List<Wait> waits = new ArrayList<>();
        TreeSet<Integer> firsts = new TreeSet<>();
    }

    private final List<Area> areas = new ArrayList<>();
    private final List<Integer> posted = new ArrayList<>();
    private final List<Integer> schedule = new ArrayList<>();
    private final List<Integer> log = new ArrayList<>();
    private int passed = 0;
    private boolean closed = false;

    private Area area(int number) {
        for (Area area : areas) {
            if (area.number == number) {
                return area;
            }
        }
        return null;
    }

    private int doneOf(Area area) {
        int done = 0;
        for (int entry : log) {
            if (entry / 1000 == area.number) {
                done++;
            }
        }
        return done;
    }

    private int openOf(Area area) {
        int done = doneOf(area);
        int end = 0;
        for (int first : area.firsts) {
            if (first + 1 <= done) {
                end = first + 1;
            }
        }
        return done - end;
    }

    private boolean between(Area area) {
        return area.firsts.contains(doneOf(area));
    }

    private int untaken(int on) {
        int rest = 0;
        for (int event : posted) {
            rest += event == on ? 1 : 0;
        }
        for (Area area : areas) {
            for (Wait wait : area.waits) {
                rest -= wait.on == on && wait.taken ? 1 : 0;
            }
        }
        return rest;
    }

    /** What a turn came to: 's' a step, 'e' an end, 'p' passed over. */
    private char give(Area area) {
        if (area.state != 0) {
            return 'p';
        }
        if (area.told && !between(area)) {
            area.state = 3;
            return 'e';
        }
        int next = doneOf(area) + 1;
        for (Wait wait : area.waits) {
            if (wait.step != next || wait.taken) {
                continue;
            }
            if (untaken(wait.on) == 0) {
                return 'p';
            }
            wait.taken = true;
        }
        if (next == area.failsAt) {
            area.state = 2;
            return 'e';
        }
        log.add(1000 * area.number + next);
        if (next == area.steps) {
            area.state = 1;
        }
        return 's';
    }

    int region(int steps, int failsAt) {
        if (steps < 1 || steps > 100 || failsAt < 0 || failsAt > 100) {
            return -4;
        }
        if (closed) {
            return -5;
        }
        if (areas.size() == 30) {
            return -1;
        }
        Area area = new Area();
        area.number = areas.size() + 1;
        area.steps = steps;
        area.failsAt = failsAt;
        areas.add(area);
        return area.number;
    }

    int waits(int region, int step, int on) {
        Area area = area(region);
        if (area == null) {
            return -2;
        }
        if (step < 1 || step > area.steps || on < 0 || on > 15) {
            return -4;
        }
        if (area.state != 0 || doneOf(area) >= step) {
            return -5;
        }
        if (area.waits.size() == 20) {
            return -1;
        }
        Wait wait = new Wait();
        wait.step = step;
        wait.on = on;
        area.waits.add(wait);
        return area.waits.size();
    }

    int post(int on) {
        if (on < 0 || on > 15) {
            return -4;
        }
        if (closed) {
            return -5;
        }
        posted.add(on);
        return untaken(on);
    }

    void turn(int region) {
        if (!closed && area(region) != null && schedule.size() < 600) {
            schedule.add(region);
        }
    }

    int run() {
        if (closed) {
            return -5;
        }
        int before = log.size();
        while (!schedule.isEmpty()) {
            if (give(area(schedule.remove(0))) == 'p') {
                passed++;
            }
        }
        return log.size() - before;
    }

    int log(int i) {
        return i >= 0 && i < log.size() ? log.get(i) : 0;
    }

    boolean cancel(int region) {
        Area area = area(region);
        if (closed || area == null || area.state != 0 || area.told) {
            return false;
        }
        area.told = true;
        return true;
    }

    int cleaned(int region) {
        Area area = area(region);
        return area == null ? -2 : area.state >= 1 && area.state <= 3 ? 1 : 0;
    }

    int backed(int region) {
        Area area = area(region);
        return area == null ? -2 : area.state == 2 || area.state == 3 ? openOf(area) : 0;
    }

    int shutdown(boolean quick) {
        if (closed) {
            return -5;
        }
        boolean again = !quick;
        while (again) {
            again = false;
            for (Area area : areas) {
                again |= give(area) != 'p';
            }
        }
        int units = 0;
        for (Area area : areas) {
            if (area.state == 0) {
                area.state = quick || between(area) ? 4 : 3;
                units += area.state == 4 && openOf(area) > 0 ? 1 : 0;
            }
        }
        schedule.clear();
        return units;
    }

    int decision(int region, int step) {
        Area area = area(region);
        if (area == null) {
            return -2;
        }
        if (step < 1 || step > area.steps - 1) {
            return -4;
        }
        if (area.state != 0 || doneOf(area) >= step) {
            return -5;
        }
        if (!area.firsts.subSet(step - 1, true, step + 1, true).isEmpty()) {
            return 0;
        }
        area.firsts.add(step);
        return 1;
    }

    int finished(int region) {
        Area area = area(region);
        return area == null ? -2 : area.state;
    }

    int close() {
        if (closed) {
            return -5;
        }
        int left = count(3);
        for (Area area : areas) {
            area.state = area.state == 0 ? 4 : area.state;
        }
        schedule.clear();
        closed = true;
        return left;
    }

    int count(int what) {
        if (what == 0) {
            return areas.size();
        } else if (what == 1) {
            return schedule.size();
        } else if (what == 2) {
            return log.size();
        } else if (what == 3) {
            int going = 0;
            for (Area area : areas) {
                going += area.state == 0 ? 1 : 0;
            }
            return going;
        } else if (what == 4) {
            return passed;
        } else if (what == 5) {
            return closed ? 1 : 0;
        }
        return what >= 10 && what <= 25 ? untaken(what - 10) : -1;
    }

    int done(int region) {
        Area area = area(region);
        return area == null ? -2 : doneOf(area);
    }
}
