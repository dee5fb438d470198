import java.util.List;
import java.util.function.Supplier;

/** Objects that tests begin with. */
final class Given {
    /** Each stage, from a new object to THE END; from the second one on nothing that can be told is as at first. */
    static final List<Supplier<GreatSort>> STAGES = List.of(GreatSort::new, Given::rows, Given::runs, Given::planned,
            Given::merged, Given::atWork, Given::atEnd);
    static final List<Supplier<GreatSort>> WITH_RUNS = STAGES.subList(2, STAGES.size());
    static final List<Supplier<GreatSort>> WITHOUT_RUNS = List.of(GreatSort::new, Given::rows, Given::runsOfNoRows,
            Given::cleared);
    static final List<Supplier<GreatSort>> WITHOUT_A_CUT = List.of(GreatSort::new, Given::rows, Given::runsOfNoRows,
            Given::cleared, Given::runs, Given::planned, Given::merged, Given::runsAnew);

    private Given() {
    }

    /** ROWS of SORT 0 with these values, in turn. */
    static GreatSort of(int... values) {
        GreatSort x = new GreatSort();
        for (int value : values) {
            x.give(0, value);
        }
        return x;
    }

    /** RUNS of these lengths: each rises, and stands wholly ahead of the ones that came earlier. */
    static GreatSort ofRuns(int... lengths) {
        GreatSort x = new GreatSort();
        for (int k = 0; k < lengths.length; k++) {
            for (int i = 0; i < lengths[k]; i++) {
                x.give(0, i - 1000 * k);
            }
        }
        Check.due("runs made", x.runs(1), lengths.length);
        return x;
    }

    /** A CUT into n PARTS of so many ROWS each, numbered in THE ORDER. */
    static GreatSort ofParts(int n, int size) {
        GreatSort x = rising(n * size);
        x.runs(1);
        Check.due("samples", x.cut(n, 1), n * size);
        for (int j = 0; j < n; j++) {
            Check.due("size of part " + j, x.part(j, 0), size);
        }
        return x;
    }

    /** A CUT into PARTS of 0 0 2 0 2 ROWS, PART j on HOST j. */
    static GreatSort withEmptyParts() {
        GreatSort x = rising(4);
        x.runs(1);
        x.cut(5, 2);
        Check.due("parts of 0 0 2 0 2 rows", x.part(2, 0) * 10 + x.part(4, 0), 22);
        return x;
    }

    /** So many ROWS of SORT 0, each behind the one that came before it; few calls. */
    static GreatSort rising(int n) {
        return sloping(n, 1);
    }

    /** So many ROWS of SORT 0, each ahead of the one that came before it; few calls. */
    static GreatSort falling(int n) {
        return sloping(n, -1);
    }

    private static GreatSort sloping(int n, int slope) {
        GreatSort x = new GreatSort();
        for (int made = 0; made < n; made += 100) {
            x.sow(0, Math.min(100, n - made), 0, slope, 1);
        }
        Check.due("rows sown", x.count(0), n);
        return x;
    }

    static GreatSort rows() {
        GreatSort x = new GreatSort();
        x.order(1, 0, 3, 2);
        x.falls(1, true);
        int[][] keys = {{0, 4}, {1, 7}, {0, 2}, {1, 7}, {0, 9}, {1, 1}, {0, -3}, {2, 0}};
        for (int[] key : keys) {
            x.give(key[0], key[1]);
        }
        x.pace(0, 1);
        x.pace(1, 3);
        x.fall(2);
        x.fall(5);
        return x;
    }

    static GreatSort runs() {
        GreatSort x = rows();
        Check.due("runs made", x.runs(1), 4);
        return x;
    }

    static GreatSort runsOfNoRows() {
        GreatSort x = new GreatSort();
        x.runs(1);
        return x;
    }

    static GreatSort planned() {
        GreatSort x = runs();
        x.plan(2);
        return x;
    }

    static GreatSort merged() {
        GreatSort x = planned();
        x.merge();
        return x;
    }

    /** PARTS done and begun, and one that has fallen with ROWS merged. */
    static GreatSort atWork() {
        GreatSort x = merged();
        x.cut(4, 1);
        x.tick();
        x.fall(3);
        return x;
    }

    static GreatSort atEnd() {
        GreatSort x = atWork();
        x.tick();
        Check.due("the end", x.work(4), 1);
        return x;
    }

    static GreatSort cleared() {
        GreatSort x = atEnd();
        x.clear();
        return x;
    }

    static GreatSort runsAnew() {
        GreatSort x = atWork();
        x.runs(1);
        return x;
    }
}
