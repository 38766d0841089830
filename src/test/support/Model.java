import java.util.ArrayList;
import java.util.Arrays;
import java.util.Comparator;
import java.util.List;
import java.util.NoSuchElementException;
import java.util.TreeSet;

/** The document once more, in the slowest and plainest way: the exact plan is found by trying every plan. */
final class Model {
    static final class Who {
        int skills;
        int from;
        int to;
        int zone;
        int[] rest;
        boolean here = true;
        final TreeSet<Integer> refused = new TreeSet<>();
    }

    static final class What {
        int number;
        int skill;
        int seconds;
        int due;
        int zone;
        String state = "OPEN";
        int person = -1;
        int start = -1;
    }

    final List<Who> whos = new ArrayList<>();
    final List<What> whats = new ArrayList<>();
    final int[][] way = new int[4][4];
    int now = 0;
    boolean exactly = false;

    static void range(boolean holds) {
        if (!holds) {
            throw new IllegalArgumentException();
        }
    }

    static void state(boolean holds) {
        if (!holds) {
            throw new IllegalStateException();
        }
    }

    Who who(int person) {
        if (person < 0 || person >= whos.size()) {
            throw new NoSuchElementException();
        }
        return whos.get(person);
    }

    What what(int task) {
        if (task < 0 || task >= whats.size()) {
            throw new NoSuchElementException();
        }
        return whats.get(task);
    }

    static boolean time(int t) {
        return 0 <= t && t <= 100000;
    }

    int person(int skills, int from, int to, int zone) {
        range(0 <= skills && skills <= 255 && time(from) && time(to) && from < to && 0 <= zone && zone <= 3);
        if (whos.size() == 4) {
            throw new UnsupportedOperationException();
        }
        Who w = new Who();
        w.skills = skills;
        w.from = from;
        w.to = to;
        w.zone = zone;
        whos.add(w);
        return whos.size() - 1;
    }

    void rest(int person, int from, int to) {
        Who w = who(person);
        range(w.from <= from && from <= to && to <= w.to);
        w.rest = from == to ? null : new int[] {from, to};
    }

    int train(int person, int skill) {
        Who w = who(person);
        range(0 <= skill && skill <= 7);
        state((w.skills & 1 << skill) == 0);
        w.skills += 1 << skill;
        return Integer.bitCount(w.skills);
    }

    int task(int skill, int seconds, int due, int zone) {
        range(0 <= skill && skill <= 7 && 1 <= seconds && seconds <= 5000 && time(due) && 0 <= zone && zone <= 3);
        if (whats.size() == 16) {
            throw new UnsupportedOperationException();
        }
        What w = new What();
        w.number = whats.size();
        w.skill = skill;
        w.seconds = seconds;
        w.due = due;
        w.zone = zone;
        whats.add(w);
        return w.number;
    }

    void way(int zone, int other, int seconds) {
        range(0 <= zone && zone <= 3 && 0 <= other && other <= 3 && zone != other && 0 <= seconds && seconds <= 1000);
        way[zone][other] = seconds;
        way[other][zone] = seconds;
    }

    boolean refuse(int person, int task) {
        Who w = who(person);
        What t = what(task);
        state(t.state.equals("OPEN") && !w.refused.contains(task));
        w.refused.add(task);
        if (t.person != person) {
            return false;
        }
        t.person = -1;
        t.start = -1;
        return true;
    }

    boolean may(int person, What t) {
        Who w = whos.get(person);
        return w.here && (w.skills & 1 << t.skill) != 0 && !w.refused.contains(t.number);
    }

    What begun(int person) {
        for (What t : whats) {
            if (t.state.equals("BEGUN") && t.person == person) {
                return t;
            }
        }
        return null;
    }

    /** The starts of a person's tasks in this order, or null if it can't be. */
    int[] starts(int person, List<What> row) {
        Who w = whos.get(person);
        What before = begun(person);
        int at = Math.max(now, w.from);
        int zone = w.zone;
        if (before != null) {
            at = Math.max(at, before.start + before.seconds);
            zone = before.zone;
        }
        int[] starts = new int[row.size()];
        for (int i = 0; i < starts.length; i++) {
            What t = row.get(i);
            if (!may(person, t)) {
                return null;
            }
            int start = at + way[zone][t.zone];
            if (w.rest != null && start < w.rest[1] && start + t.seconds > w.rest[0]) {
                start = w.rest[1];
            }
            if (start + t.seconds > w.to) {
                return null;
            }
            starts[i] = start;
            at = start + t.seconds;
            zone = t.zone;
        }
        return starts;
    }

    int bar(int person, int task) {
        Who w = who(person);
        What t = what(task);
        state(t.state.equals("OPEN"));
        if (!w.here) {
            return 1;
        }
        if ((w.skills & 1 << t.skill) == 0) {
            return 2;
        }
        if (w.refused.contains(task)) {
            return 3;
        }
        return starts(person, List.of(t)) == null ? 4 : 0;
    }

    List<What> open() {
        List<What> open = new ArrayList<>();
        for (What t : whats) {
            if (t.state.equals("OPEN")) {
                open.add(t);
            }
        }
        return open;
    }

    static int late(What t, int person, int start) {
        return person == -1 ? 100000 : Math.max(0, start + t.seconds - t.due);
    }

    int assign(int most) {
        range(0 <= most && most <= 5);
        List<What> open = open();
        for (What t : open) {
            t.person = -1;
            t.start = -1;
        }
        exactly = open.size() <= most;
        if (exactly) {
            best = null;
            List<List<What>> rows = new ArrayList<>();
            for (int i = 0; i < whos.size(); i++) {
                rows.add(new ArrayList<>());
            }
            tryAll(open, 0, rows);
            for (int i = 0; i < open.size(); i++) {
                int person = best[1 + i];
                open.get(i).person = person == 9 ? -1 : person;
                open.get(i).start = person == 9 ? -1 : best[1 + open.size() + i];
            }
        } else {
            rule(open);
        }
        return count(7);
    }

    int[] best;

    /** Puts the i-th open task at every place of every row, or nowhere: so every plan comes up once. */
    void tryAll(List<What> open, int i, List<List<What>> rows) {
        if (i == open.size()) {
            weigh(open, rows);
            return;
        }
        for (List<What> row : rows) {
            for (int place = 0; place <= row.size(); place++) {
                row.add(place, open.get(i));
                tryAll(open, i + 1, rows);
                row.remove(place);
            }
        }
        tryAll(open, i + 1, rows);
    }

    void weigh(List<What> open, List<List<What>> rows) {
        int n = open.size();
        int[] plan = new int[1 + 2 * n];
        Arrays.fill(plan, 1, 1 + n, 9);
        for (int p = 0; p < rows.size(); p++) {
            int[] starts = starts(p, rows.get(p));
            if (starts == null) {
                return;
            }
            for (int k = 0; k < starts.length; k++) {
                int i = open.indexOf(rows.get(p).get(k));
                plan[1 + i] = p;
                plan[1 + n + i] = starts[k];
            }
        }
        for (int i = 0; i < n; i++) {
            plan[0] += late(open.get(i), plan[1 + i] == 9 ? -1 : plan[1 + i], plan[1 + n + i]);
        }
        if (best == null || Arrays.compare(plan, best) < 0) {
            best = plan;
        }
    }

    void rule(List<What> open) {
        List<List<What>> rows = new ArrayList<>();
        for (int i = 0; i < whos.size(); i++) {
            rows.add(new ArrayList<>());
        }
        open.sort(Comparator.comparingInt((What t) -> t.due).thenComparingInt(t -> t.number));
        for (What t : open) {
            int[] least = null;
            for (int p = 0; p < whos.size(); p++) {
                List<What> longer = new ArrayList<>(rows.get(p));
                longer.add(t);
                int[] starts = starts(p, longer);
                if (starts != null) {
                    int start = starts[starts.length - 1];
                    int held = rows.get(p).size() + known(p, 4) + (known(p, 3) == -1 ? 0 : 1);
                    int[] key = {start + t.seconds, held, p, start};
                    least = least == null || Arrays.compare(key, least) < 0 ? key : least;
                }
            }
            if (least != null) {
                rows.get(least[2]).add(t);
                t.start = least[3];
            }
        }
        for (int p = 0; p < rows.size(); p++) {
            for (What t : rows.get(p)) {
                t.person = p;
            }
        }
    }

    boolean exact() {
        return exactly;
    }

    int bound() {
        int sum = 0;
        for (What t : open()) {
            int least = 100000;
            for (int p = 0; p < whos.size(); p++) {
                int[] starts = starts(p, List.of(t));
                if (starts != null) {
                    least = Math.min(least, late(t, p, starts[0]));
                }
            }
            sum += least;
        }
        return sum;
    }

    List<What> planned(int person) {
        List<What> planned = open();
        planned.removeIf(t -> t.person != person);
        planned.sort(Comparator.comparingInt((What t) -> t.start).thenComparingInt(t -> t.number));
        return planned;
    }

    int give(int person) {
        Who w = who(person);
        state(w.here && begun(person) == null);
        state(w.from <= now && now < w.to);
        state(w.rest == null || now < w.rest[0] || now >= w.rest[1]);
        List<What> planned = planned(person);
        if (planned.isEmpty() || planned.get(0).start > now) {
            return -1;
        }
        What t = planned.get(0);
        t.state = "BEGUN";
        t.start = now;
        w.zone = t.zone;
        return t.number;
    }

    int done(int person) {
        who(person);
        What t = begun(person);
        state(t != null && now >= t.start + t.seconds);
        t.state = "DONE";
        return known(person, 4);
    }

    int leaves(int person) {
        Who w = who(person);
        state(w.here);
        w.here = false;
        int free = 0;
        for (What t : whats) {
            if (t.person == person && !t.state.equals("DONE")) {
                t.state = "OPEN";
                t.person = -1;
                t.start = -1;
                free++;
            }
        }
        return free;
    }

    int fair(int person) {
        who(person);
        return count(4) == 0 ? 0 : known(person, 4) * 100 / count(4);
    }

    void pass(int time) {
        range(time(time) && time >= now);
        now = time;
    }

    int order(int person, int i) {
        who(person);
        range(i >= 0);
        List<What> planned = planned(person);
        return i < planned.size() ? planned.get(i).number : -1;
    }

    int told(int task, int what) {
        What t = what(task);
        range(0 <= what && what <= 6);
        int state = List.of("OPEN", "BEGUN", "DONE").indexOf(t.state);
        return new int[] {state, t.person, t.start, t.skill, t.seconds, t.due, t.zone}[what];
    }

    int known(int person, int what) {
        Who w = who(person);
        range(0 <= what && what <= 5);
        int done = 0;
        for (What t : whats) {
            done += t.state.equals("DONE") && t.person == person ? 1 : 0;
        }
        int begun = begun(person) == null ? -1 : begun(person).number;
        return new int[] {w.here ? 1 : 0, w.skills, w.zone, begun, done, planned(person).size()}[what];
    }

    int count(int what) {
        int[] of = new int[8];
        for (What t : whats) {
            of[2] += t.state.equals("OPEN") ? 1 : 0;
            of[3] += t.state.equals("BEGUN") ? 1 : 0;
            of[4] += t.state.equals("DONE") ? 1 : 0;
            of[5] += t.state.equals("OPEN") && t.person == -1 ? 1 : 0;
            of[7] += t.state.equals("OPEN") ? late(t, t.person, t.start) : 0;
        }
        of[0] = whos.size();
        of[1] = whats.size();
        of[6] = now;
        return what < 0 || what > 7 ? -1 : of[what];
    }
}
