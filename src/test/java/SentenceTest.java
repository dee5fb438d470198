import java.util.ArrayList;
import java.util.Comparator;
import java.util.List;

/** The sentences of the document that name no boundary case: a test for each, on ROWS of all SORTS. */
public final class SentenceTest {
    private static final int NONE = -1;
    private static final int MOST_CALLS = 512;
    /** THE ORDER of SORTS that is told for the ROWS here, and which of them fall. */
    private static final List<Integer> SORTS = List.of(2, 0, 3, 1);
    private static final List<Integer> FALLING = List.of(0, 1);
    private static final Comparator<Integer> ORDER = Comparator
            .comparingInt((Integer row) -> SORTS.indexOf(sortOf(row)))
            .thenComparingInt(row -> FALLING.contains(sortOf(row)) ? -valueOf(row) : valueOf(row))
            .thenComparingInt(row -> row);

    private SentenceTest() {
    }

    public static void main(String[] args) {
        theLastCallOfAnObject();
        sowTellsHowManyThereAre();
        orderOfSorts();
        fallsFromNowOn();
        howTwoRowsStand();
        rowsAheadOfARow();
        runsTellHowMany();
        rowsOfARun();
        eachMergeMakesANewRun();
        aMergeMovesTheNewRun();
        mergesOfThePlan();
        runsThatAMergeTakes();
        theQueueMovesRows();
        looksAtKeys();
        mergedRunsStandInTheOrder();
        howManySamples();
        boundOfTheCut();
        aHostThatFallsIsDown();
        aHostComesUp();
        workOfTheCut();
        rowsOfTheEnd();
        Check.end();
    }

    private static int sortOf(int row) {
        return row * 7 % 5 % 4;
    }

    private static int valueOf(int row) {
        return row * 37 % 11 - 5;
    }

    private static GreatSort mixed(int n) {
        GreatSort x = new GreatSort();
        Check.due("order", x.order(SORTS.get(0), SORTS.get(1), SORTS.get(2), SORTS.get(3)), true);
        for (int sort : FALLING) {
            Check.due("falls", x.falls(sort, true), true);
        }
        for (int row = 0; row < n; row++) {
            Check.due("give", x.give(sortOf(row), valueOf(row)), row);
        }
        return x;
    }

    private static List<Integer> inOrder(int n) {
        List<Integer> rows = new ArrayList<>();
        for (int row = 0; row < n; row++) {
            rows.add(row);
        }
        rows.sort(ORDER);
        return rows;
    }

    private static GreatSort planned(int n, int room, int k) {
        GreatSort x = mixed(n);
        x.runs(room);
        x.plan(k);
        return x;
    }

    private static void theLastCallOfAnObject() {
        Check.sentence("What it is: An object is used for at most 512 calls after it has been made");
        GreatSort x = new GreatSort();
        for (int i = 0; i < 256; i++) {
            Check.due("give", x.give(0, -i), i);
        }
        Check.due("runs", x.runs(1), 256);
        Check.due("plan", x.plan(2), 8 * 256);
        Check.due("cut", x.cut(8, 1), 256);
        for (int call = 260; call < MOST_CALLS; call++) {
            Check.due("merge, call " + call, x.merge(), 8 * 256 / 2);
        }
        Check.due("the last one", x.at(510, 0), 255);
        // What later ones answer is free, but none may throw.
        for (int i = 0; i < 100000; i++) {
            x.give(i % 4, i);
            x.tick();
            x.fall(i % 8);
            x.rise((i + 3) % 8);
            x.end(i % 400);
        }
    }

    private static void sowTellsHowManyThereAre() {
        Check.sentence("3: n ROWS more of a SORT: how many ROWS there are then");
        GreatSort x = mixed(7);
        int there = 7;
        for (int n = 1; n <= 20; n++) {
            int sort = n % 4;
            Check.due("sow", x.sow(sort, n, n, 3, 1), there + n);
            Check.due("of that sort", x.row(there, 0), sort);
            Check.due("its number times the slope", x.row(there, 1), 3 * there);
            there += n;
            Check.due("the last one of that sort", x.row(there - 1, 0), sort);
            Check.due("its number times the slope", x.row(there - 1, 1), 3 * (there - 1));
            Check.due("count", x.count(0), there);
        }
    }

    private static void orderOfSorts() {
        Check.sentence("5: THE ORDER of SORTS: the first, second, third, fourth one: true");
        int[] all = {0, 1, 2, 3};
        int told = 0;
        GreatSort x = new GreatSort();
        for (int sort : all) {
            x.give(sort, -sort);
        }
        for (int a : all) {
            for (int b : all) {
                for (int c : all) {
                    int d = 6 - a - b - c;
                    if (a == b || a == c || b == c) {
                        continue;
                    }
                    told++;
                    Check.due("order " + a + b + c + d, x.order(a, b, c, d), true);
                    Check.due("the first", x.rank(a), 0);
                    Check.due("the second", x.rank(b), 1);
                    Check.due("the third", x.rank(c), 2);
                    Check.due("the fourth", x.rank(d), 3);
                }
            }
        }
        Check.due("orders", told, 24);
    }

    private static void fallsFromNowOn() {
        Check.sentence("6: Whether values of a SORT fall from now on: true");
        GreatSort x = new GreatSort();
        for (int row = 0; row < 8; row++) {
            x.give(row / 2, row % 2);
        }
        for (int falling = 0; falling < 16; falling++) {
            for (int sort = 0; sort < 4; sort++) {
                Check.due("falls", x.falls(sort, (falling >> sort & 1) == 1), true);
            }
            for (int sort = 0; sort < 4; sort++) {
                int want = (falling >> sort & 1) == 1 ? 1 : -1;
                Check.due("sort " + sort + " of " + falling, x.against(2 * sort, 2 * sort + 1), want);
            }
        }
    }

    private static void howTwoRowsStand() {
        Check.sentence("8: How two ROWS stand: -1 the first one is ahead, 1 the other one, 0 they are the same");
        GreatSort x = mixed(21);
        for (int a = 0; a < 21; a++) {
            for (int b = 0; b < 21; b++) {
                Check.due("against(" + a + ", " + b + ")", x.against(a, b), Integer.signum(ORDER.compare(a, b)));
            }
        }
    }

    private static void rowsAheadOfARow() {
        Check.sentence("9: How many ROWS stand ahead of a ROW");
        GreatSort x = mixed(200);
        List<Integer> due = inOrder(200);
        for (int place = 0; place < 200; place++) {
            Check.due("rank", x.rank(due.get(place)), place);
        }
    }

    private static void runsTellHowMany() {
        Check.sentence("10: RUNS are made of all ROWS by a HEAP with a told room: how many");
        for (int room = 1; room <= 40; room++) {
            GreatSort x = mixed(100);
            int runs = x.runs(room);
            Check.due("count(1)", x.count(1), runs);
            Check.due("the last one", x.length(runs - 1) > 0, true);
            Check.due("none behind", x.length(runs), NONE);
            int rows = 0;
            for (int k = 0; k < runs; k++) {
                rows += x.length(k);
                Check.due("only the last one can be shorter than the room", x.length(k) >= room || k == runs - 1, true);
            }
            Check.due("11: How many ROWS RUN k has, all together", rows, 100);
        }
    }

    private static void rowsOfARun() {
        Check.sentence("12: The ROW at place i of RUN k");
        for (int room = 1; room <= 12; room++) {
            GreatSort x = mixed(90);
            int runs = x.runs(room);
            boolean[] seen = new boolean[90];
            int last = NONE;
            for (int k = 0; k < runs; k++) {
                int first = x.at(k, 0);
                Check.due("a new run begins ahead of the last one's end", k == 0 || ORDER.compare(first, last) < 0, true);
                int length = x.length(k);
                for (int i = 0; i < length; i++) {
                    int row = x.at(k, i);
                    Check.due("each row once", seen[row], false);
                    seen[row] = true;
                    Check.due("in the order", i == 0 || ORDER.compare(last, row) < 0, true);
                    last = row;
                }
            }
        }
    }

    private static void eachMergeMakesANewRun() {
        Check.sentence("III: MERGES one behind the other, each makes of 2 to k RUNS a new one (it has the next number), "
                + "till one RUN is left");
        for (int k = 2; k <= 8; k++) {
            GreatSort x = planned(80, 1, k);
            int runs = x.count(1);
            int merges = x.merges();
            boolean[] taken = new boolean[runs + merges];
            for (int i = 0; i < merges; i++) {
                int ways = 0;
                for (int run = x.takes(i, 0); run != NONE; run = x.takes(i, ways)) {
                    Check.due("one that is there", run < runs + i, true);
                    Check.due("one that is left", taken[run], false);
                    taken[run] = true;
                    ways++;
                }
                Check.due("2 to " + k, ways >= 2 && ways <= k, true);
            }
            for (int run = 0; run < runs + merges; run++) {
                Check.due("only the last one is left", taken[run], run < runs + merges - 1);
            }
        }
    }

    private static void aMergeMovesTheNewRun() {
        Check.sentence("III: it moves as many ROWS as the new one has");
        for (int k = 2; k <= 8; k++) {
            GreatSort x = mixed(80);
            int runs = x.runs(2);
            int moves = x.plan(k);
            int merges = x.merges();
            x.merge();
            int moved = 0;
            for (int i = 0; i < merges; i++) {
                int rows = 0;
                for (int j = 0; j < k && x.takes(i, j) != NONE; j++) {
                    rows += x.length(x.takes(i, j));
                }
                Check.due("the new one has all rows of those", x.length(runs + i), rows);
                moved += rows;
            }
            Check.due("13: how many ROWS it moves", moves, moved);
        }
    }

    private static void mergesOfThePlan() {
        Check.sentence("15: How many MERGES THE PLAN has");
        for (int runs = 1; runs <= 30; runs++) {
            GreatSort x = Given.falling(runs);
            x.runs(1);
            for (int k = 2; k <= 8; k++) {
                x.plan(k);
                // Each MERGE leaves up to k - 1 RUNS fewer; one is left.
                Check.due(runs + " runs by " + k, x.merges(), (int) Math.ceil((runs - 1) / (k - 1.0)));
            }
        }
    }

    private static void runsThatAMergeTakes() {
        Check.sentence("16: The j-th RUN that MERGE i of THE PLAN takes");
        GreatSort x = Given.ofRuns(6, 2, 5, 3, 1, 4);
        Check.due("by 3", x.plan(3), 3 + 10 + 21);
        Shows.takes(x, 0, 4, 1);
        // RUN 6 has three ROWS like RUN 3; then 5, 6 and 10 are left.
        Shows.takes(x, 1, 3, 6, 5);
        Shows.takes(x, 2, 2, 0, 7);
        Check.due("by 2", x.plan(2), 3 + 6 + 9 + 12 + 21);
        Shows.takes(x, 0, 4, 1);
        Shows.takes(x, 1, 3, 6);
        Shows.takes(x, 2, 5, 2);
        Shows.takes(x, 3, 0, 7);
        Shows.takes(x, 4, 8, 9);
    }

    private static void theQueueMovesRows() {
        Check.sentence("14: THE QUEUE by k ways: how many ROWS it moves");
        GreatSort x = Given.ofRuns(6, 2, 5, 3, 1, 4);
        Check.due("by 2", x.queue(2), 8 + 8 + 5 + 16 + 21);
        Check.due("by 3", x.queue(3), 8 + 9 + 21);
        Check.due("by 4", x.queue(4), 13 + 21);
        Check.due("by 5", x.queue(5), 8 + 21);
        Check.due("by 6", x.queue(6), 21);
        for (int k = 2; k <= 8; k++) {
            GreatSort y = mixed(120);
            y.runs(2);
            Check.due("no fewer than the plan", y.queue(k) >= y.plan(k), true);
        }
    }

    private static void looksAtKeys() {
        Check.sentence("17: if each MERGE finds the next ROW by looking through the first ROWS of its RUNS that are left, "
                + "one after another");
        for (int k = 2; k <= 8; k++) {
            GreatSort x = mixed(60);
            int runs = x.runs(2);
            x.plan(k);
            int looks = x.merge();
            int due = 0;
            for (int i = 0; i < x.merges(); i++) {
                due += looksOf(x, i, runs + i);
            }
            Check.due("merge() by " + k, looks, due);
        }
    }

    /** A RUN is looked at for each ROW of the new one up to its own last ROW; the first one that is left takes no look. */
    private static int looksOf(GreatSort x, int merge, int made) {
        int size = x.length(made);
        int looks = -size;
        for (int j = 0; j < 8; j++) {
            int run = x.takes(merge, j);
            if (run != NONE) {
                looks += placeIn(x, made, x.at(run, x.length(run) - 1)) + 1;
            }
        }
        return looks;
    }

    /** Looked for by halves: so the calls stay few. */
    private static int placeIn(GreatSort x, int run, int row) {
        int least = 0;
        int most = x.length(run) - 1;
        while (least < most) {
            int middle = (least + most) / 2;
            if (ORDER.compare(x.at(run, middle), row) < 0) {
                least = middle + 1;
            } else {
                most = middle;
            }
        }
        Check.due("the row is in it", x.at(run, least), row);
        return least;
    }

    private static void mergedRunsStandInTheOrder() {
        Check.sentence("17: All MERGES of THE PLAN are done, in THE ORDER");
        for (int k = 2; k <= 8; k++) {
            GreatSort x = planned(150, 3, k);
            x.merge();
            int last = x.count(1) + x.merges() - 1;
            List<Integer> due = inOrder(150);
            Check.due("length", x.length(last), 150);
            for (int i = 0; i < 150; i++) {
                Check.due("at(" + last + ", " + i + ")", x.at(last, i), due.get(i));
            }
        }
    }

    private static void howManySamples() {
        Check.sentence("18: A CUT into n PARTS by each e-th ROW: how many SAMPLES");
        GreatSort x = mixed(110);
        int runs = x.runs(4);
        for (int e = 1; e <= 20; e++) {
            int due = 0;
            for (int k = 0; k < runs; k++) {
                due += x.length(k) / e;
            }
            int n = 1 + e % 8;
            Check.due("cut(" + n + ", " + e + ")", x.cut(n, e), due);
            Check.due("count(2)", x.count(2), due);
            Check.due("count(3)", x.count(3), n);
        }
    }

    private static void boundOfTheCut() {
        Check.sentence("19: BOUND of the CUT");
        GreatSort x = Given.ofRuns(7, 12, 3);
        Check.due("samples", x.cut(3, 3), 2 + 4 + 1);
        Check.due("3 times 3, and 2 times 3", x.bound(), 9 + 6);
        Check.due("samples", x.cut(7, 3), 7);
        Check.due("3 times 1, and 2 times 3", x.bound(), 3 + 6);
        Check.due("samples", x.cut(2, 5), 1 + 2);
        Check.due("5 times 2, and 4 times 3", x.bound(), 10 + 12);
    }

    private static void aHostThatFallsIsDown() {
        Check.sentence("V: A HOST that FALLS is DOWN");
        for (int host = 0; host < 8; host++) {
            GreatSort x = Given.ofParts(8, 20);
            x.tick();
            Check.due("22: A HOST FALLS: how many PARTS go elsewhere", x.fall(host), 1);
            for (int other = 0; other < 8; other++) {
                Check.due("host " + other, x.host(other, 1), other == host ? 0 : 1);
            }
            Check.due("it works no more", x.tick(), 70);
            Check.due("it has merged what it had", x.host(host, 4), 10);
            x.cut(8, 1);
            Check.due("no part lies on it", x.host(host, 2), 0);
        }
    }

    private static void aHostComesUp() {
        Check.sentence("23: A HOST comes UP");
        for (int host = 0; host < 8; host++) {
            GreatSort x = Given.ofParts(8, 20);
            x.fall(host);
            Check.due("rise", x.rise(host), 0);
            Check.due("up", x.host(host, 1), 1);
            x.fall((host + 1) % 8);
            Check.due("it has the fewest rows left: none", x.part((host + 1) % 8, 2), host);
            Check.due("it works", x.tick(), 70);
            Check.due("it has merged", x.host(host, 4), 10);
        }
    }

    private static void workOfTheCut() {
        Check.sentence("26: Of the CUT: 0 TICKS, 1 ROWS merged in all, 2 of these such as were merged before, "
                + "3 PARTS that are done, 4 whether THE END is there (1, 0)");
        GreatSort x = Given.ofParts(3, 25);
        x.pace(1, 25);
        x.tick();
        Shows.work(x, 1, 45, 0, 1, 0);
        x.tick();
        Shows.work(x, 2, 65, 0, 1, 0);
        // PART 1 lies on HOST 3 then, which begins it again with its PACE of 10.
        x.fall(1);
        Shows.work(x, 2, 65, 0, 0, 0);
        x.tick();
        Shows.work(x, 3, 85, 10, 2, 0);
        x.tick();
        Shows.work(x, 4, 95, 20, 2, 0);
        x.tick();
        Shows.work(x, 5, 100, 25, 3, 1);
        Check.due("merged by host 1", x.host(1, 4), 25);
        Check.due("merged by host 3", x.host(3, 4), 25);
    }

    private static void rowsOfTheEnd() {
        Check.sentence("27: The ROW at place i of THE END");
        List<Integer> due = inOrder(130);
        for (int n = 1; n <= 8; n++) {
            GreatSort x = mixed(130);
            x.runs(5);
            x.cut(n, 1 + n % 4);
            x.pace(0, 50);
            for (int i = 0; i < 4; i++) {
                x.tick();
                x.fall(n - 1 - i);
            }
            for (int i = 0; i < 20 && x.work(4) == 0; i++) {
                x.tick();
            }
            Check.due("THE END is there", x.work(4), 1);
            for (int i = 0; i < 130; i++) {
                Check.due("end(" + i + ")", x.end(i), due.get(i));
            }
        }
    }
}
