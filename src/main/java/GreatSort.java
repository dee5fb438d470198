/**
 * A house that puts rows in order: RUNS by a small HEAP, THE PLAN of their MERGES,
 * a CUT into PARTS by SAMPLES, and HOSTS that merge these PARTS, fall, and begin again.
 * The words in capitals are those of the document.
 */
public final class GreatSort {
    /** None; refused. */
    public static final int NONE = -1;

    private static final int MAX_ROWS = 400;
    private static final int SORTS = 4;
    private static final int MAX_VALUE = 100000;
    private static final int VALUES = 2 * MAX_VALUE + 1;
    // Every place that a ROW can have in THE ORDER is a whole number below this one; it fits an int.
    private static final int PLACES = SORTS * VALUES * MAX_ROWS;

    private static final int MAX_SOWN = 100;
    private static final int MAX_SLOPE = 100;
    private static final int MAX_SPREAD = 10000;

    private static final int MAX_ROOM = 40;
    // MERGES leave one RUN of those that were there, so they make at most one fewer than there are ROWS.
    private static final int MAX_RUNS = 2 * MAX_ROWS - 1;
    private static final int MIN_WAYS = 2;
    private static final int MAX_WAYS = 8;
    // 400 RUNS need no more than nine rounds by two ways, and THE PLAN moves no more than rounds do.
    private static final int MAX_MOVED = 9 * MAX_ROWS;

    private static final int MAX_PARTS = 8;
    private static final int MAX_STEP = 20;
    private static final int HOSTS = 8;
    private static final int MAX_PACE = 50;
    private static final int FIRST_PACE = 10;

    private static final int NOT_THERE = -2;
    private static final int NO_ROW = -1000000;

    private final Rows rows;
    private final Heap heap;
    private final Runs runs;
    private final Plan plan;
    private final Cut cut;
    private final Hosts hosts;

    public GreatSort() {
        rows = new Rows();
        heap = new Heap();
        runs = new Runs();
        plan = new Plan();
        cut = new Cut();
        hosts = new Hosts();
    }

    public int give(int sort, int value) {
        if (!isIn(sort, 0, SORTS - 1) || !isIn(value, -MAX_VALUE, MAX_VALUE) || !rows.hasRoomFor(1)) {
            return NONE;
        }
        rows.add(sort, value);
        return rows.count - 1;
    }

    public int sow(int sort, int n, int seed, int slope, int spread) {
        if (!isIn(sort, 0, SORTS - 1) || !isIn(n, 1, MAX_SOWN) || !isIn(slope, -MAX_SLOPE, MAX_SLOPE)
                || !isIn(spread, 1, MAX_SPREAD) || !rows.hasRoomFor(n)) {
            return NONE;
        }
        int g = seed;
        for (int i = 0; i < n; i++) {
            g = 1103515245 * g + 12345;
            rows.add(sort, rows.count * slope + (g >>> 8) % spread);
        }
        return rows.count;
    }

    public int clear() {
        int there = rows.count;
        rows.count = 0;
        forgetRuns();
        return there;
    }

    public boolean order(int a, int b, int c, int d) {
        if (runs.made > 0 || !isEachSortOnce(a, b, c, d)) {
            return false;
        }
        rows.turns[a] = 0;
        rows.turns[b] = 1;
        rows.turns[c] = 2;
        rows.turns[d] = 3;
        return true;
    }

    public boolean falls(int sort, boolean falling) {
        if (runs.made > 0 || !isIn(sort, 0, SORTS - 1)) {
            return false;
        }
        rows.falling[sort] = falling;
        return true;
    }

    public int row(int i, int what) {
        if (!rows.has(i)) {
            return NO_ROW;
        }
        switch (what) {
            case 0: return rows.sorts[i];
            case 1: return rows.values[i];
            default: return NO_ROW;
        }
    }

    public int against(int a, int b) {
        if (!rows.has(a) || !rows.has(b)) {
            return NOT_THERE;
        }
        return Integer.compare(rows.placeOf(a), rows.placeOf(b));
    }

    public int rank(int i) {
        if (!rows.has(i)) {
            return NONE;
        }
        int own = rows.placeOf(i);
        int ahead = 0;
        for (int other = 0; other < rows.count; other++) {
            if (rows.placeOf(other) < own) {
                ahead++;
            }
        }
        return ahead;
    }

    public int runs(int room) {
        if (!isIn(room, 1, MAX_ROOM)) {
            return NONE;
        }
        forgetRuns();
        runs.makeOf(rows, room, heap);
        return runs.made;
    }

    public int length(int k) {
        return runs.has(k) ? runs.sizeOf(k) : NONE;
    }

    public int at(int k, int i) {
        return runs.rowIn(k, i);
    }

    public int plan(int k) {
        if (runs.made == 0 || !isIn(k, MIN_WAYS, MAX_WAYS)) {
            return NONE;
        }
        // The RUNS that another PLAN's MERGES made bear the numbers of those that this one will make.
        runs.forgetMerged();
        return plan.tell(runs, k, heap);
    }

    public int queue(int k) {
        if (runs.made == 0 || !isIn(k, MIN_WAYS, MAX_WAYS)) {
            return NONE;
        }
        return plan.movedByQueue(runs, k);
    }

    public int merges() {
        return plan.merges;
    }

    public int takes(int i, int j) {
        return plan.taken(i, j);
    }

    public int merge() {
        if (!plan.told) {
            return NONE;
        }
        runs.forgetMerged();
        int looks = 0;
        for (int i = 0; i < plan.merges; i++) {
            looks += runs.mergeThose(plan, i);
        }
        return looks;
    }

    public int cut(int n, int e) {
        if (runs.made == 0 || !isIn(n, 1, MAX_PARTS) || !isIn(e, 1, MAX_STEP)) {
            return NONE;
        }
        cut.makeOf(runs, n, e);
        cut.layOn(hosts);
        return cut.samples;
    }

    public int bound() {
        return cut.stands() ? cut.bound : NONE;
    }

    public int part(int j, int what) {
        if (!isIn(j, 0, cut.parts - 1)) {
            return NOT_THERE;
        }
        switch (what) {
            case 0: return cut.sizes[j];
            case 1: return cut.merged[j];
            case 2: return cut.lies[j];
            case 3: return cut.ends[j];
            default: return NOT_THERE;
        }
    }

    public boolean pace(int host, int n) {
        if (!isHost(host) || !isIn(n, 0, MAX_PACE)) {
            return false;
        }
        hosts.paces[host] = n;
        return true;
    }

    public int fall(int host) {
        if (!isHost(host) || !hosts.up[host]) {
            return NONE;
        }
        hosts.up[host] = false;
        return cut.moveFrom(host, hosts);
    }

    public int rise(int host) {
        if (!isHost(host) || hosts.up[host]) {
            return NONE;
        }
        hosts.up[host] = true;
        return cut.bringTo(host);
    }

    public int host(int host, int what) {
        if (!isHost(host)) {
            return NONE;
        }
        switch (what) {
            case 0: return hosts.paces[host];
            case 1: return hosts.up[host] ? 1 : 0;
            case 2: return cut.partsOn(host);
            case 3: return cut.leftOn(host);
            case 4: return cut.mergedBy[host];
            default: return NONE;
        }
    }

    public int tick() {
        return cut.stands() ? cut.goOn(hosts) : NONE;
    }

    public int work(int what) {
        if (!cut.stands()) {
            return NONE;
        }
        switch (what) {
            case 0: return cut.ticks;
            case 1: return cut.mergedInAll;
            case 2: return cut.mergedAgain;
            case 3: return cut.partsDone();
            case 4: return cut.isAtEnd() ? 1 : 0;
            default: return NONE;
        }
    }

    public int end(int i) {
        return cut.isAtEnd() ? runs.rowInOrder(i) : NONE;
    }

    public int count(int what) {
        switch (what) {
            case 0: return rows.count;
            case 1: return runs.made;
            case 2: return cut.samples;
            case 3: return cut.parts;
            default: return NONE;
        }
    }

    private void forgetRuns() {
        runs.forget();
        plan.forget();
        cut.forget();
    }

    private static boolean isIn(int n, int least, int most) {
        return n >= least && n <= most;
    }

    private static boolean isHost(int host) {
        return isIn(host, 0, HOSTS - 1);
    }

    private static boolean isEachSortOnce(int a, int b, int c, int d) {
        int last = SORTS - 1;
        return isIn(a, 0, last) && isIn(b, 0, last) && isIn(c, 0, last) && isIn(d, 0, last)
                && a != b && a != c && a != d && b != c && b != d && c != d;
    }

    /** The ROWS as they came, and THE ORDER among them. */
    private static final class Rows {
        private final int[] sorts = new int[MAX_ROWS];
        private final int[] values = new int[MAX_ROWS];
        // The turn that each SORT has in THE ORDER.
        private final int[] turns = {0, 1, 2, 3};
        private final boolean[] falling = new boolean[SORTS];
        private int count;

        boolean has(int row) {
            return isIn(row, 0, count - 1);
        }

        boolean hasRoomFor(int more) {
            return more <= MAX_ROWS - count;
        }

        void add(int sort, int value) {
            if (count < MAX_ROWS) {
                sorts[count] = sort;
                values[count] = value;
                count++;
            }
        }

        /** THE ORDER in one number: a ROW is ahead of all that have a greater one, and no two have the same. */
        int placeOf(int row) {
            if (!has(row)) {
                return PLACES;
            }
            int sort = sorts[row];
            int value = falling[sort] ? -values[row] : values[row];
            return (turns[sort] * VALUES + value + MAX_VALUE) * MAX_ROWS + row;
        }

        static int rowOf(long place) {
            return (int) (place % MAX_ROWS);
        }
    }

    /** Gives back numbers, the least first; it has room for as many as there can be ROWS. */
    private static final class Heap {
        private final long[] items = new long[MAX_ROWS];
        private int size;

        void forget() {
            size = 0;
        }

        void add(long item) {
            if (size >= items.length) {
                return;
            }
            int hole = size;
            size++;
            while (hole > 0) {
                int above = (hole - 1) / 2;
                if (items[above] <= item) {
                    break;
                }
                items[hole] = items[above];
                hole = above;
            }
            items[hole] = item;
        }

        /** The least number, which goes; 0 if there is none. */
        long takeLeast() {
            if (size == 0) {
                return 0;
            }
            long least = items[0];
            size--;
            sink(items[size]);
            return least;
        }

        private void sink(long item) {
            int hole = 0;
            for (int left = 1; left < size; left = 2 * hole + 1) {
                int right = left + 1;
                int lesser = right < size && items[right] < items[left] ? right : left;
                if (items[lesser] >= item) {
                    break;
                }
                items[hole] = items[lesser];
                hole = lesser;
            }
            items[hole] = item;
        }
    }

    /** The RUNS of II, and behind them those that MERGES made. */
    private static final class Runs {
        // RUN k has the members from starts[k] up to, not with, starts[k + 1].
        private final int[] members = new int[MAX_ROWS + MAX_MOVED];
        private final int[] starts = new int[MAX_RUNS + 1];
        // All ROWS of the RUNS of II in THE ORDER, and for each ROW where it stands there.
        private final int[] inOrder = new int[MAX_ROWS];
        private final int[] standing = new int[MAX_ROWS];
        // Of each RUN that a MERGE takes: where its first member that is left lies, and where its members end.
        private final int[] heads = new int[MAX_WAYS];
        private final int[] tails = new int[MAX_WAYS];
        private int rowsInAll;
        private int made;
        private int all;
        private int filled;

        void forget() {
            rowsInAll = 0;
            made = 0;
            all = 0;
            filled = 0;
        }

        void forgetMerged() {
            all = made;
            filled = rowsInAll;
        }

        boolean has(int k) {
            return isIn(k, 0, all - 1);
        }

        int sizeOf(int k) {
            return has(k) ? starts[k + 1] - starts[k] : 0;
        }

        int rowIn(int k, int i) {
            return isIn(i, 0, sizeOf(k) - 1) ? members[starts[k] + i] : NONE;
        }

        int rowInOrder(int i) {
            return isIn(i, 0, rowsInAll - 1) ? inOrder[i] : NONE;
        }

        int standingOf(int row) {
            return isIn(row, 0, rowsInAll - 1) ? standing[row] : NONE;
        }

        /** Makes the RUNS of II, when none are there. */
        void makeOf(Rows rows, int room, Heap heap) {
            rowsInAll = rows.count;
            putInOrder(rows, heap);
            select(rows, room, heap);
            made = all;
        }

        private void putInOrder(Rows rows, Heap heap) {
            heap.forget();
            for (int row = 0; row < rowsInAll; row++) {
                heap.add(rows.placeOf(row));
            }
            for (int i = 0; i < rowsInAll; i++) {
                int row = Rows.rowOf(heap.takeLeast());
                inOrder[i] = row;
                standing[row] = i;
            }
        }

        /** The HEAP holds a ROW's RUN above its place: one that must wait for the next RUN lies behind all others. */
        private void select(Rows rows, int room, Heap heap) {
            heap.forget();
            int next = Math.min(room, rowsInAll);
            for (int row = 0; row < next; row++) {
                heap.add(rows.placeOf(row));
            }
            for (int i = 0; i < rowsInAll; i++) {
                long first = heap.takeLeast();
                long run = first / PLACES;
                if (run >= all) {
                    begin();
                }
                append(Rows.rowOf(first));
                if (next < rowsInAll) {
                    int place = rows.placeOf(next);
                    heap.add(place + PLACES * (place < first % PLACES ? run + 1 : run));
                    next++;
                }
            }
        }

        private void begin() {
            if (all < MAX_RUNS) {
                starts[all] = filled;
                all++;
                starts[all] = filled;
            }
        }

        private void append(int row) {
            if (filled < members.length) {
                members[filled] = row;
                filled++;
                starts[all] = filled;
            }
        }

        /** Does a MERGE, and tells how many times two ROWS were looked at. */
        int mergeThose(Plan plan, int merge) {
            int ways = Math.min(plan.waysIn(merge), MAX_WAYS);
            int size = 0;
            for (int j = 0; j < ways; j++) {
                int k = plan.taken(merge, j);
                heads[j] = has(k) ? starts[k] : 0;
                tails[j] = heads[j] + sizeOf(k);
                size += sizeOf(k);
            }
            begin();
            int looks = 0;
            for (int i = 0; i < size; i++) {
                looks += takeFirst(ways);
            }
            return looks;
        }

        private int takeFirst(int ways) {
            int seen = 0;
            int from = 0;
            int first = NONE;
            for (int j = 0; j < ways; j++) {
                if (heads[j] >= tails[j]) {
                    continue;
                }
                seen++;
                int row = members[heads[j]];
                if (first == NONE || standingOf(row) < standingOf(first)) {
                    first = row;
                    from = j;
                }
            }
            if (seen == 0) {
                return 0;
            }
            heads[from]++;
            append(first);
            return seen - 1;
        }
    }

    /** THE PLAN: which RUNS each of its MERGES takes. */
    private static final class Plan {
        // MERGE i takes those from starts[i] up to, not with, starts[i + 1].
        private final int[] takenRuns = new int[2 * MAX_ROWS];
        private final int[] starts = new int[MAX_ROWS + 1];
        // How many ROWS each RUN of THE QUEUE has.
        private final int[] queued = new int[MAX_RUNS];
        private int merges;
        private boolean told;

        void forget() {
            merges = 0;
            told = false;
        }

        int waysIn(int merge) {
            return isIn(merge, 0, merges - 1) ? starts[merge + 1] - starts[merge] : 0;
        }

        int taken(int merge, int j) {
            return isIn(j, 0, waysIn(merge) - 1) ? takenRuns[starts[merge] + j] : NONE;
        }

        /** Tells THE PLAN, and how many ROWS it moves. */
        int tell(Runs runs, int ways, Heap heap) {
            heap.forget();
            for (int k = 0; k < runs.made; k++) {
                heap.add(sized(runs.sizeOf(k), k));
            }
            int moved = 0;
            merges = Math.min(mergesOf(runs.made, ways), MAX_ROWS);
            told = true;
            for (int i = 0; i < merges; i++) {
                int size = takeFewest(i, waysOf(i, runs.made, ways), heap);
                heap.add(sized(size, runs.made + i));
                moved += size;
            }
            return moved;
        }

        private int takeFewest(int merge, int ways, Heap heap) {
            int size = 0;
            int to = starts[merge];
            for (int j = 0; j < ways && to < takenRuns.length; j++) {
                long fewest = heap.takeLeast();
                takenRuns[to] = (int) (fewest % MAX_RUNS);
                size += (int) (fewest / MAX_RUNS);
                to++;
            }
            starts[merge + 1] = to;
            return size;
        }

        int movedByQueue(Runs runs, int ways) {
            for (int k = 0; k < runs.made; k++) {
                queued[k] = runs.sizeOf(k);
            }
            int moved = 0;
            int next = 0;
            int last = Math.min(runs.made + mergesOf(runs.made, ways), MAX_RUNS);
            for (int k = runs.made; k < last; k++) {
                int size = 0;
                int behind = next + waysOf(k - runs.made, runs.made, ways);
                for (; next < behind && next < k; next++) {
                    size += queued[next];
                }
                queued[k] = size;
                moved += size;
            }
            return moved;
        }

        /** A RUN in one number: the fewer ROWS the less, of as many the lesser number the less. */
        private static long sized(int size, int run) {
            return (long) size * MAX_RUNS + run;
        }

        private static int waysOf(int merge, int runs, int ways) {
            if (merge > 0 || ways < MIN_WAYS) {
                return ways;
            }
            return 2 + (runs - 2) % (ways - 1);
        }

        private static int mergesOf(int runs, int ways) {
            if (runs < 2 || ways < MIN_WAYS) {
                return 0;
            }
            return 1 + (runs - waysOf(0, runs, ways)) / (ways - 1);
        }
    }

    /** What each HOST is, with a CUT or without one. */
    private static final class Hosts {
        private final int[] paces = new int[HOSTS];
        private final boolean[] up = new boolean[HOSTS];

        Hosts() {
            for (int host = 0; host < HOSTS; host++) {
                paces[host] = FIRST_PACE;
                up[host] = true;
            }
        }
    }

    /** A CUT into PARTS, on which HOSTS they lie, and the work that has been done at them. */
    private static final class Cut {
        private final boolean[] sampled = new boolean[MAX_ROWS];
        // Where each SAMPLE stands among all ROWS of RUNS in THE ORDER.
        private final int[] sampleStandings = new int[MAX_ROWS];
        private final int[] sizes = new int[MAX_PARTS];
        private final int[] ends = new int[MAX_PARTS];
        private final int[] lies = new int[MAX_PARTS];
        private final int[] merged = new int[MAX_PARTS];
        // The most ROWS of each PART that were ever merged: up to there they are merged again after a fall.
        private final int[] reached = new int[MAX_PARTS];
        private final boolean[] done = new boolean[MAX_PARTS];
        private final int[] mergedBy = new int[HOSTS];
        private int parts;
        private int samples;
        private int bound;
        private int ticks;
        private int mergedInAll;
        private int mergedAgain;

        void forget() {
            parts = 0;
            samples = 0;
            bound = 0;
            ticks = 0;
            mergedInAll = 0;
            mergedAgain = 0;
            for (int host = 0; host < HOSTS; host++) {
                mergedBy[host] = 0;
            }
        }

        boolean stands() {
            return parts > 0;
        }

        void makeOf(Runs runs, int n, int step) {
            forget();
            if (n < 1 || n > MAX_PARTS || step < 1) {
                return;
            }
            takeSamples(runs, step);
            parts = n;
            bound = step * ((samples + n - 1) / n) + (step - 1) * runs.made;
            int behind = 0;
            for (int j = 0; j < n; j++) {
                int last = j == n - 1 ? runs.rowsInAll - 1 : lastStanding((j + 1) * samples / n - 1);
                ends[j] = j == n - 1 ? NONE : runs.rowInOrder(last);
                sizes[j] = last + 1 - behind;
                behind = last + 1;
                reached[j] = 0;
                beginAnew(j);
            }
        }

        private int lastStanding(int sample) {
            return isIn(sample, 0, samples - 1) ? sampleStandings[sample] : NONE;
        }

        private void takeSamples(Runs runs, int step) {
            for (int i = 0; i < MAX_ROWS; i++) {
                sampled[i] = false;
            }
            for (int k = 0; k < runs.made; k++) {
                int size = runs.sizeOf(k);
                for (int i = step - 1; i < size; i += step) {
                    int standing = runs.standingOf(runs.rowIn(k, i));
                    if (standing != NONE) {
                        sampled[standing] = true;
                    }
                }
            }
            for (int i = 0; i < MAX_ROWS; i++) {
                if (sampled[i]) {
                    sampleStandings[samples] = i;
                    samples++;
                }
            }
        }

        void layOn(Hosts hosts) {
            for (int j = 0; j < parts; j++) {
                lies[j] = j;
            }
            for (int host = 0; host < HOSTS; host++) {
                if (!hosts.up[host]) {
                    moveFrom(host, hosts);
                }
            }
        }

        /** Lays the PARTS of a HOST that is DOWN elsewhere, and tells how many they are. */
        int moveFrom(int host, Hosts hosts) {
            int moved = 0;
            for (int j = 0; j < parts; j++) {
                if (lies[j] == host) {
                    beginAnew(j);
                    lies[j] = leastLaden(hosts);
                    moved++;
                }
            }
            return moved;
        }

        /** Lays the PARTS that lie nowhere on a HOST, and tells how many they are. */
        int bringTo(int host) {
            int brought = 0;
            for (int j = 0; j < parts; j++) {
                if (lies[j] == NONE) {
                    lies[j] = host;
                    brought++;
                }
            }
            return brought;
        }

        private void beginAnew(int j) {
            merged[j] = 0;
            done[j] = false;
        }

        private int leastLaden(Hosts hosts) {
            int least = NONE;
            int fewest = 0;
            for (int host = 0; host < HOSTS; host++) {
                if (!hosts.up[host]) {
                    continue;
                }
                int left = leftOn(host);
                if (least == NONE || left < fewest) {
                    least = host;
                    fewest = left;
                }
            }
            return least;
        }

        int partsOn(int host) {
            int on = 0;
            for (int j = 0; j < parts; j++) {
                if (lies[j] == host) {
                    on++;
                }
            }
            return on;
        }

        int leftOn(int host) {
            int left = 0;
            for (int j = 0; j < parts; j++) {
                if (lies[j] == host) {
                    left += sizes[j] - merged[j];
                }
            }
            return left;
        }

        /** A TICK: tells how many ROWS are merged in it. */
        int goOn(Hosts hosts) {
            ticks++;
            int before = mergedInAll;
            for (int host = 0; host < HOSTS; host++) {
                if (hosts.up[host]) {
                    workAtPartsOf(host, hosts.paces[host]);
                }
            }
            return mergedInAll - before;
        }

        private void workAtPartsOf(int host, int pace) {
            int left = pace;
            for (int j = 0; j < parts; j++) {
                if (lies[j] != host || done[j]) {
                    continue;
                }
                int now = Math.min(left, sizes[j] - merged[j]);
                mergeSome(j, now);
                mergedBy[host] += now;
                left -= now;
                // With no PACE left it still goes on from a PART that is done: an empty one is done as it is met.
                if (merged[j] < sizes[j]) {
                    break;
                }
                done[j] = true;
            }
        }

        private void mergeSome(int j, int now) {
            mergedAgain += Math.min(now, Math.max(0, reached[j] - merged[j]));
            mergedInAll += now;
            merged[j] += now;
            reached[j] = Math.max(reached[j], merged[j]);
        }

        int partsDone() {
            int finished = 0;
            for (int j = 0; j < parts; j++) {
                if (done[j]) {
                    finished++;
                }
            }
            return finished;
        }

        boolean isAtEnd() {
            return stands() && partsDone() == parts;
        }
    }
}
