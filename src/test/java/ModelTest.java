import java.util.Random;

/** Runs of 512 random calls, the same ones each time, on the class and on the model of the document. */
public final class ModelTest {
    private static final int CALLS = 512;
    private static final int OBJECTS = 1500;
    private static final int SHOWN = 12;
    // How often each call comes, by its number in call(): those that change much come seldom.
    private static final int[] WEIGHTS = {12, 8, 1, 2, 2, 4, 4, 4, 4, 6, 14, 6, 4, 3, 10, 6, 6, 3, 14, 8, 6, 6, 14, 16, 12,
        8, 4};

    private final GreatSort own = new GreatSort();
    private final Model model = new Model();
    private final Random random;
    private final StringBuilder told = new StringBuilder();

    private ModelTest(long seed) {
        random = new Random(seed);
    }

    public static void main(String[] args) {
        int wrong = 0;
        for (int seed = 0; seed < OBJECTS && wrong < 3; seed++) {
            ModelTest test = new ModelTest(seed);
            boolean same = seed % 2 == 0 ? test.isSame() : test.isSameByStages();
            if (!same) {
                wrong++;
                System.out.println("seed " + seed + ":\n" + test.lastOfTold());
            }
        }
        System.out.println(OBJECTS + " runs of calls, " + wrong + " wrong");
        if (wrong != 0) {
            System.exit(1);
        }
    }

    private boolean isSame() {
        for (int i = 0; i < CALLS; i++) {
            if (!call(pick())) {
                return false;
            }
        }
        return true;
    }

    /** First ROWS, then RUNS, then only what is asked and done with these: so that much is there to be asked. */
    private boolean isSameByStages() {
        int most = random.nextInt(30);
        boolean same = true;
        for (int i = 0; i < most && same; i++) {
            same = call(random.nextInt(8));
        }
        same = same && call(8);
        for (int i = most + 1; i < CALLS && same; i++) {
            int what = pick();
            same = what == 2 || what == 8 || call(what);
        }
        return same;
    }

    private String lastOfTold() {
        String[] lines = told.toString().split("\n");
        StringBuilder last = new StringBuilder();
        for (int i = Math.max(0, lines.length - SHOWN); i < lines.length; i++) {
            last.append(lines[i]).append('\n');
        }
        return last.toString();
    }

    private int pick() {
        int all = 0;
        for (int weight : WEIGHTS) {
            all += weight;
        }
        int at = random.nextInt(all);
        int what = 0;
        while (at >= WEIGHTS[what]) {
            at -= WEIGHTS[what];
            what++;
        }
        return what;
    }

    /** Mostly from least to most, now and then just outside, seldom far outside. */
    private int some(int least, int most) {
        int kind = random.nextInt(40);
        if (kind == 0) {
            return random.nextInt();
        }
        if (kind < 3) {
            return kind == 1 ? least - 1 : most + 1;
        }
        return least + random.nextInt(Math.max(1, most - least + 1));
    }

    private boolean same(String name, long got, long want, int... args) {
        told.append(name).append(java.util.Arrays.toString(args)).append(" answered ").append(got);
        told.append(", due is ").append(want).append('\n');
        return got == want;
    }

    private static int bit(boolean b) {
        return b ? 1 : 0;
    }

    private boolean call(int what) {
        return what < 14 ? callOfRowsAndRuns(what) : callOfPlansAndHosts(what);
    }

    private boolean callOfRowsAndRuns(int what) {
        int row = some(0, model.count(0) - 1);
        int other = some(0, model.count(0) - 1);
        int sort = some(0, 3);
        int run = some(0, model.count(1) + model.merges() - 1);
        switch (what) {
            case 0: {
                int value = random.nextBoolean() ? some(-5, 5) : some(-100000, 100000);
                return same("give", own.give(sort, value), model.give(sort, value), sort, value);
            }
            case 1: return sow(sort);
            case 2: return same("clear", own.clear(), model.clear());
            case 3: return order();
            case 4: {
                boolean falling = random.nextBoolean();
                return same("falls", bit(own.falls(sort, falling)), bit(model.falls(sort, falling)), sort, bit(falling));
            }
            case 5: {
                int part = some(0, 1);
                return same("row", own.row(row, part), model.row(row, part), row, part);
            }
            case 6: return same("against", own.against(row, other), model.against(row, other), row, other);
            case 7: return same("rank", own.rank(row), model.rank(row), row);
            case 8: {
                int room = random.nextInt(3) == 0 ? some(1, 40) : some(1, 5);
                return same("runs", own.runs(room), model.runs(room), room);
            }
            case 9: return same("length", own.length(run), model.length(run), run);
            case 10: {
                int place = some(0, model.length(run));
                return same("at", own.at(run, place), model.at(run, place), run, place);
            }
            case 11: {
                int ways = some(2, 8);
                return same("plan", own.plan(ways), model.plan(ways), ways);
            }
            case 12: {
                int ways = some(2, 8);
                return same("queue", own.queue(ways), model.queue(ways), ways);
            }
            default: return same("merges", own.merges(), model.merges());
        }
    }

    private boolean sow(int sort) {
        int n = random.nextBoolean() ? some(1, 12) : some(1, 100);
        int seed = random.nextInt();
        int slope = random.nextBoolean() ? some(-3, 3) : some(-100, 100);
        int spread = random.nextBoolean() ? some(1, 20) : some(1, 10000);
        return same("sow", own.sow(sort, n, seed, slope, spread), model.sow(sort, n, seed, slope, spread),
                sort, n, seed, slope, spread);
    }

    private boolean order() {
        int[] sorts = {0, 1, 2, 3};
        for (int i = 3; i > 0; i--) {
            int j = random.nextInt(i + 1);
            int kept = sorts[i];
            sorts[i] = sorts[j];
            sorts[j] = kept;
        }
        if (random.nextInt(3) == 0) {
            sorts[random.nextInt(4)] = some(0, 3);
        }
        return same("order", bit(own.order(sorts[0], sorts[1], sorts[2], sorts[3])),
                bit(model.order(sorts[0], sorts[1], sorts[2], sorts[3])), sorts);
    }

    private boolean callOfPlansAndHosts(int what) {
        int host = some(0, 7);
        switch (what) {
            case 14: {
                int merge = some(0, model.merges() - 1);
                int place = some(0, 8);
                return same("takes", own.takes(merge, place), model.takes(merge, place), merge, place);
            }
            case 15: return same("merge", own.merge(), model.merge());
            case 16: {
                int n = some(1, 8);
                int step = random.nextBoolean() ? some(1, 4) : some(1, 20);
                return same("cut", own.cut(n, step), model.cut(n, step), n, step);
            }
            case 17: return same("bound", own.bound(), model.bound());
            case 18: {
                int part = some(0, model.count(3) - 1);
                int of = some(0, 3);
                return same("part", own.part(part, of), model.part(part, of), part, of);
            }
            case 19: {
                int pace = random.nextBoolean() ? some(0, 3) : some(0, 50);
                return same("pace", bit(own.pace(host, pace)), bit(model.pace(host, pace)), host, pace);
            }
            case 20: return same("fall", own.fall(host), model.fall(host), host);
            case 21: return same("rise", own.rise(host), model.rise(host), host);
            case 22: {
                int of = some(0, 4);
                return same("host", own.host(host, of), model.host(host, of), host, of);
            }
            case 23: return same("tick", own.tick(), model.tick());
            case 24: {
                int of = some(0, 4);
                return same("work", own.work(of), model.work(of), of);
            }
            case 25: {
                int place = some(0, model.count(0) - 1);
                return same("end", own.end(place), model.end(place), place);
            }
            default: {
                int of = some(0, 3);
                return same("count", own.count(of), model.count(of), of);
            }
        }
    }
}
