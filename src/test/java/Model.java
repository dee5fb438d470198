import java.util.ArrayList;
import java.util.Arrays;
import java.util.Collections;
import java.util.Comparator;
import java.util.List;

/** The document word by word, with the Java library and with no thought of speed: the class is held against it. */
final class Model {
    private static final class Part {
        final List<Integer> rows = new ArrayList<>();
        int end = -1;
        int host = -1;
        int merged = 0;
        boolean done = false;
        int left() {
            return rows.size() - merged;
        }
    }

    private final List<int[]> keys = new ArrayList<>();
    private List<Integer> sorts = Arrays.asList(0, 1, 2, 3);
    private final boolean[] falling = new boolean[4];
    private List<List<Integer>> runs = new ArrayList<>();
    private List<List<Integer>> made = new ArrayList<>();
    private List<List<Integer>> plan = null;
    private List<Part> parts = null;
    private int samples;
    private int bound;
    private int ticks;
    private int mergedAgain;
    private final List<Integer> everMerged = new ArrayList<>();
    private int[] mergedBy = new int[8];
    private final int[] paces = {10, 10, 10, 10, 10, 10, 10, 10};
    private final boolean[] up = {true, true, true, true, true, true, true, true};

    private final Comparator<Integer> order = (a, b) -> {
        int[] x = keys.get(a);
        int[] y = keys.get(b);
        if (x[0] != y[0]) {
            return Integer.compare(sorts.indexOf(x[0]), sorts.indexOf(y[0]));
        }
        if (x[1] != y[1]) {
            return falling[x[0]] ? Integer.compare(y[1], x[1]) : Integer.compare(x[1], y[1]);
        }
        return Integer.compare(a, b);
    };

    private static boolean in(int n, int least, int most) {
        return least <= n && n <= most;
    }

    private boolean isRow(int i) {
        return in(i, 0, keys.size() - 1);
    }

    int give(int sort, int value) {
        if (!in(sort, 0, 3) || !in(value, -100000, 100000) || keys.size() == 400) {
            return -1;
        }
        keys.add(new int[] {sort, value});
        return keys.size() - 1;
    }

    int sow(int sort, int n, int seed, int slope, int spread) {
        if (!in(sort, 0, 3) || !in(n, 1, 100) || !in(slope, -100, 100) || !in(spread, 1, 10000)
                || keys.size() + n > 400) {
            return -1;
        }
        int g = seed;
        for (int i = 0; i < n; i++) {
            g = 1103515245 * g + 12345;
            keys.add(new int[] {sort, keys.size() * slope + (g >>> 8) % spread});
        }
        return keys.size();
    }

    private void forget() {
        runs = new ArrayList<>();
        made = new ArrayList<>();
        plan = null;
        parts = null;
        mergedBy = new int[8];
    }

    int clear() {
        int there = keys.size();
        keys.clear();
        forget();
        return there;
    }

    boolean order(int a, int b, int c, int d) {
        List<Integer> told = Arrays.asList(a, b, c, d);
        if (!runs.isEmpty() || !told.containsAll(Arrays.asList(0, 1, 2, 3))) {
            return false;
        }
        sorts = told;
        return true;
    }

    boolean falls(int sort, boolean f) {
        if (!runs.isEmpty() || !in(sort, 0, 3)) {
            return false;
        }
        falling[sort] = f;
        return true;
    }

    int row(int i, int what) {
        return isRow(i) && in(what, 0, 1) ? keys.get(i)[what] : -1000000;
    }

    int against(int a, int b) {
        return isRow(a) && isRow(b) ? Integer.signum(order.compare(a, b)) : -2;
    }

    int rank(int i) {
        return isRow(i) ? allRows(keys.size()).indexOf(i) : -1;
    }

    private List<Integer> allRows(int n) {
        List<Integer> all = new ArrayList<>();
        for (int i = 0; i < n; i++) {
            all.add(i);
        }
        all.sort(order);
        return all;
    }

    int runs(int room) {
        if (!in(room, 1, 40)) {
            return -1;
        }
        forget();
        List<Integer> heap = new ArrayList<>();
        int next = 0;
        while (next < keys.size() && heap.size() < room) {
            heap.add(next++);
        }
        while (!heap.isEmpty()) {
            List<Integer> run = runs.isEmpty() ? null : runs.get(runs.size() - 1);
            Integer first = null;
            for (Integer row : heap) {
                boolean fits = run != null && order.compare(row, run.get(run.size() - 1)) > 0;
                if (fits && (first == null || order.compare(row, first) < 0)) {
                    first = row;
                }
            }
            if (first == null) {
                first = Collections.min(heap, order);
                run = new ArrayList<>();
                runs.add(run);
            }
            run.add(first);
            heap.remove(first);
            if (next < keys.size()) {
                heap.add(next++);
            }
        }
        return runs.size();
    }

    private List<Integer> run(int k) {
        if (in(k, 0, runs.size() - 1)) {
            return runs.get(k);
        }
        return in(k, runs.size(), runs.size() + made.size() - 1) ? made.get(k - runs.size()) : null;
    }

    int length(int k) {
        return run(k) == null ? -1 : run(k).size();
    }

    int at(int k, int i) {
        return run(k) == null || !in(i, 0, run(k).size() - 1) ? -1 : run(k).get(i);
    }

    /** The RUNS that each MERGE takes, and behind them all how many ROWS are moved. */
    private List<List<Integer>> mergesBy(int k, boolean fewest) {
        List<List<Integer>> merges = new ArrayList<>();
        List<int[]> left = new ArrayList<>();
        for (int r = 0; r < runs.size(); r++) {
            left.add(new int[] {r, runs.get(r).size()});
        }
        int moved = 0;
        int ways = 2 + (runs.size() - 2) % (k - 1);
        while (left.size() > 1) {
            if (fewest) {
                left.sort((a, b) -> a[1] != b[1] ? a[1] - b[1] : a[0] - b[0]);
            }
            List<Integer> taken = new ArrayList<>();
            int size = 0;
            for (int j = 0; j < ways; j++) {
                int[] run = left.remove(0);
                taken.add(run[0]);
                size += run[1];
            }
            left.add(new int[] {runs.size() + merges.size(), size});
            merges.add(taken);
            moved += size;
            ways = k;
        }
        merges.add(Collections.singletonList(moved));
        return merges;
    }

    int plan(int k) {
        if (runs.isEmpty() || !in(k, 2, 8)) {
            return -1;
        }
        plan = mergesBy(k, true);
        made = new ArrayList<>();
        return plan.remove(plan.size() - 1).get(0);
    }

    int queue(int k) {
        if (runs.isEmpty() || !in(k, 2, 8)) {
            return -1;
        }
        List<List<Integer>> queue = mergesBy(k, false);
        return queue.get(queue.size() - 1).get(0);
    }

    int merges() {
        return plan == null ? 0 : plan.size();
    }

    int takes(int i, int j) {
        return !in(i, 0, merges() - 1) || !in(j, 0, plan.get(i).size() - 1) ? -1 : plan.get(i).get(j);
    }

    int merge() {
        if (plan == null) {
            return -1;
        }
        made = new ArrayList<>();
        int looks = 0;
        for (List<Integer> taken : plan) {
            List<List<Integer>> left = new ArrayList<>();
            for (int k : taken) {
                left.add(new ArrayList<>(run(k)));
            }
            List<Integer> run = new ArrayList<>();
            while (!left.isEmpty()) {
                List<Integer> best = left.get(0);
                for (int j = 1; j < left.size(); j++) {
                    looks++;
                    best = order.compare(left.get(j).get(0), best.get(0)) < 0 ? left.get(j) : best;
                }
                run.add(best.remove(0));
                left.removeIf(List::isEmpty);
            }
            made.add(run);
        }
        return looks;
    }

    int cut(int n, int e) {
        if (runs.isEmpty() || !in(n, 1, 8) || !in(e, 1, 20)) {
            return -1;
        }
        List<Integer> taken = new ArrayList<>();
        int rows = 0;
        for (List<Integer> run : runs) {
            for (int i = 0; i < run.size(); i++) {
                if ((i + 1) % e == 0) {
                    taken.add(run.get(i));
                }
            }
            rows += run.size();
        }
        taken.sort(order);
        samples = taken.size();
        bound = e * (int) Math.ceil((double) samples / n) + (e - 1) * runs.size();
        parts = new ArrayList<>();
        ticks = 0;
        mergedAgain = 0;
        everMerged.clear();
        mergedBy = new int[8];
        List<Integer> all = allRows(rows);
        for (int j = 1; j <= n; j++) {
            Part part = new Part();
            int number = j * samples / n - 1;
            part.end = j == n || number < 0 ? -1 : taken.get(number);
            while (!all.isEmpty() && (j == n || number >= 0 && order.compare(all.get(0), part.end) <= 0)) {
                part.rows.add(all.remove(0));
            }
            part.host = j - 1;
            parts.add(part);
        }
        for (Part part : parts) {
            if (!up[part.host]) {
                lay(part);
            }
        }
        return samples;
    }

    private void lay(Part part) {
        part.host = -1;
        part.merged = 0;
        part.done = false;
        int best = -1;
        for (int h = 7; h >= 0; h--) {
            if (up[h] && (best < 0 || host(h, 3) <= host(best, 3))) {
                best = h;
            }
        }
        part.host = best;
    }

    int bound() {
        return parts == null ? -1 : bound;
    }

    int part(int j, int what) {
        if (parts == null || !in(j, 0, parts.size() - 1) || !in(what, 0, 3)) {
            return -2;
        }
        Part p = parts.get(j);
        return new int[] {p.rows.size(), p.merged, p.host, p.end}[what];
    }

    boolean pace(int host, int n) {
        if (!in(host, 0, 7) || !in(n, 0, 50)) {
            return false;
        }
        paces[host] = n;
        return true;
    }

    private List<Part> on(int host) {
        List<Part> on = new ArrayList<>();
        if (parts != null) {
            for (Part part : parts) {
                if (part.host == host) {
                    on.add(part);
                }
            }
        }
        return on;
    }

    int fall(int host) {
        if (!in(host, 0, 7) || !up[host]) {
            return -1;
        }
        up[host] = false;
        List<Part> going = on(host);
        going.forEach(this::lay);
        return going.size();
    }

    int rise(int host) {
        if (!in(host, 0, 7) || up[host]) {
            return -1;
        }
        up[host] = true;
        List<Part> coming = on(-1);
        for (Part part : coming) {
            part.host = host;
        }
        return coming.size();
    }

    int host(int host, int what) {
        if (!in(host, 0, 7) || !in(what, 0, 4)) {
            return -1;
        }
        int left = on(host).stream().mapToInt(Part::left).sum();
        return new int[] {paces[host], up[host] ? 1 : 0, on(host).size(), left, mergedBy[host]}[what];
    }

    int tick() {
        if (parts == null) {
            return -1;
        }
        ticks++;
        int now = 0;
        for (int h = 0; h < 8; h++) {
            int left = up[h] ? paces[h] : 0;
            List<Part> waiting = up[h] ? on(h) : new ArrayList<>();
            waiting.removeIf(p -> p.done);
            while (!waiting.isEmpty() && (waiting.get(0).left() == 0 || left > 0)) {
                Part part = waiting.get(0);
                if (part.left() > 0) {
                    int row = part.rows.get(part.merged++);
                    mergedAgain += everMerged.contains(row) ? 1 : 0;
                    everMerged.add(row);
                    mergedBy[h]++;
                    left--;
                    now++;
                }
                if (part.left() == 0) {
                    part.done = true;
                    waiting.remove(0);
                }
            }
        }
        return now;
    }

    int work(int what) {
        if (parts == null || !in(what, 0, 4)) {
            return -1;
        }
        int done = (int) parts.stream().filter(p -> p.done).count();
        return new int[] {ticks, everMerged.size(), mergedAgain, done, done == parts.size() ? 1 : 0}[what];
    }

    int end(int i) {
        if (work(4) != 1) {
            return -1;
        }
        List<Integer> all = new ArrayList<>();
        parts.forEach(p -> all.addAll(p.rows));
        return in(i, 0, all.size() - 1) ? all.get(i) : -1;
    }

    int count(int what) {
        if (!in(what, 0, 3)) {
            return -1;
        }
        return new int[] {keys.size(), runs.size(), parts == null ? 0 : samples, parts == null ? 0 : parts.size()}[what];
    }
}
