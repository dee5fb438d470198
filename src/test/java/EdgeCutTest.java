import java.util.function.Supplier;

/** Terms IV and promises 18 to 20: a test for each sentence that names a boundary case. */
public final class EdgeCutTest {
    private static final int NONE = -1;
    private static final int NOT_THERE = -2;

    private EdgeCutTest() {
    }

    public static void main(String[] args) {
        partsAre1To8();
        stepsAre1To20();
        samplesStandAtEachEthPlace();
        samplesOfEachRun();
        samplesOfRunsOfII();
        samplesInTheOrder();
        partsEndAtFloors();
        belowZeroThePartIsEmpty();
        noSamples();
        partsWithTheSameEnd();
        onePartHasAll();
        theLastPartHasTheRest();
        partsOfRowsOfRuns();
        theMostSamples();
        cutWithoutARun();
        cutRefusesNumbers();
        workAtAnEarlierCutGoes();
        boundOfTheLeastWhole();
        boundByRuns();
        boundIsSure();
        boundWithoutACut();
        partThatIsNotThere();
        partOfOtherThings();
        partOfAnEmptyOne();
        Check.end();
    }

    private static void partsAre1To8() {
        Check.sentence("IV: A CUT into n PARTS (1 .. 8)");
        for (int n = 1; n <= 8; n++) {
            GreatSort x = Given.rising(16);
            x.runs(1);
            Check.due("cut(" + n + ", 1)", x.cut(n, 1), 16);
            Check.due("parts", x.count(3), n);
            Check.due("the last one", x.part(n - 1, 0) > 0, true);
            Check.due("none behind", x.part(n, 0), NOT_THERE);
        }
        for (int n : Refused.outside(1, 8)) {
            Refused.atEachStage("cut(" + n + ", 1)", x -> x.cut(n, 1), NONE);
            Refused.atEachStage("cut(" + n + ", 20)", x -> x.cut(n, 20), NONE);
        }
        Refused.atEachStage("cut(-1, 1)", x -> x.cut(-1, 1), NONE);
    }

    private static void stepsAre1To20() {
        Check.sentence("IV: by each e-th ROW (1 .. 20)");
        for (int e = 1; e <= 20; e++) {
            GreatSort x = Given.rising(400);
            x.runs(1);
            Check.due("cut(8, " + e + ")", x.cut(8, e), 400 / e);
            Check.due("count(2)", x.count(2), 400 / e);
        }
        for (int e : Refused.outside(1, 20)) {
            Refused.atEachStage("cut(1, " + e + ")", x -> x.cut(1, e), NONE);
            Refused.atEachStage("cut(8, " + e + ")", x -> x.cut(8, e), NONE);
        }
        Refused.atEachStage("cut(1, -1)", x -> x.cut(1, -1), NONE);
    }

    private static void samplesStandAtEachEthPlace() {
        Check.sentence("IV: the ROWS at the places e - 1, 2 e - 1, .. (from 0 on) are SAMPLES");
        for (int e = 2; e <= 20; e++) {
            samplesOf(e - 1, e, 0);
            GreatSort x = samplesOf(e, e, 1);
            x.cut(2, e);
            Check.due("one sample is too few for an end", x.part(0, 3), NONE);
            samplesOf(2 * e - 1, e, 1);
            GreatSort y = samplesOf(2 * e, e, 2);
            y.cut(2, e);
            Check.due("the first sample", y.part(0, 3), e - 1);
            GreatSort z = samplesOf(4 * e, e, 4);
            z.cut(4, e);
            Shows.ends(z, e - 1, 2 * e - 1, 3 * e - 1, NONE);
        }
        samplesOf(1, 1, 1);
        samplesOf(2, 1, 2);
    }

    private static GreatSort samplesOf(int rows, int e, int due) {
        GreatSort x = Given.rising(rows);
        x.runs(1);
        Check.due("samples of " + rows + " rows by each " + e + "-th", x.cut(1, e), due);
        return x;
    }

    private static void samplesOfEachRun() {
        Check.sentence("IV: of each RUN of II");
        // Two RUNS of two ROWS are not one of four.
        GreatSort x = Given.ofRuns(2, 2);
        Check.due("each too short", x.cut(2, 3), 0);
        Check.due("each long enough", x.cut(2, 2), 2);
        Check.due("all", x.cut(2, 1), 4);
        Check.due("one long enough", Given.ofRuns(1, 3, 2).cut(1, 3), 1);
        GreatSort y = Given.falling(400);
        y.runs(1);
        Check.due("400 runs of one row, each first one", y.cut(8, 1), 400);
        Check.due("400 runs of one row, each second one", y.cut(8, 2), 0);
    }

    private static void samplesOfRunsOfII() {
        Check.sentence("IV: of each RUN of II, not of those that MERGES made");
        GreatSort x = Given.ofRuns(2, 2);
        x.plan(2);
        x.merge();
        Check.due("a run of four was made", x.length(2), 4);
        Check.due("cut(1, 3)", x.cut(1, 3), 0);
        Check.due("cut(1, 1)", x.cut(1, 1), 4);
        Shows.sizes(x, 4);
        x.cut(1, 3);
        Check.due("bound by two runs", x.bound(), 2 * 2);
    }

    private static void samplesInTheOrder() {
        Check.sentence("IV: of all m SAMPLES in THE ORDER");
        GreatSort x = new GreatSort();
        x.falls(0, true);
        x.order(1, 0, 2, 3);
        // THE ORDER: 3 (SORT 1), then 2, 0 and 1 (like KEYS, by numbers).
        x.give(0, -100000);
        x.give(0, -100000);
        x.give(0, 100000);
        x.give(1, 100000);
        Check.due("runs", x.runs(1), 3);
        Check.due("samples", x.cut(4, 1), 4);
        Shows.ends(x, 3, 2, 0, NONE);
        Shows.sizes(x, 1, 1, 1, 1);
    }

    private static void partsEndAtFloors() {
        Check.sentence("IV: that with the number (from 0 on) floor(j m / n) - 1 ends PART j - 1, for j from 1 to n - 1");
        for (int n = 1; n <= 8; n++) {
            for (int m = 1; m <= 20; m++) {
                GreatSort x = Given.rising(m);
                x.runs(1);
                Check.due("samples", x.cut(n, 1), m);
                int ahead = 0;
                for (int j = 1; j < n; j++) {
                    int end = (int) Math.floor((double) (j * m) / n) - 1;
                    Check.due("end of part " + (j - 1) + " of " + n, x.part(j - 1, 3), end < 0 ? NONE : end);
                    Check.due("rows of part " + (j - 1) + " of " + n, x.part(j - 1, 0), end + 1 - ahead);
                    ahead = end + 1;
                }
                Check.due("rows of the last one of " + n, x.part(n - 1, 0), m - ahead);
                Check.due("end of the last one of " + n, x.part(n - 1, 3), NONE);
            }
        }
    }

    private static void belowZeroThePartIsEmpty() {
        Check.sentence("IV: (if that number is below 0, the PART is empty)");
        GreatSort x = Given.rising(7);
        x.runs(1);
        Check.due("one fewer than parts", x.cut(8, 1), 7);
        Shows.sizes(x, 0, 1, 1, 1, 1, 1, 1, 1);
        Shows.ends(x, NONE, 0, 1, 2, 3, 4, 5, NONE);
        x.give(0, 8);
        x.runs(1);
        Check.due("as many as parts", x.cut(8, 1), 8);
        Shows.sizes(x, 1, 1, 1, 1, 1, 1, 1, 1);
        Shows.ends(x, 0, 1, 2, 3, 4, 5, 6, NONE);
        GreatSort y = Given.rising(1);
        y.runs(1);
        Check.due("one for eight parts", y.cut(8, 1), 1);
        Shows.sizes(y, 0, 0, 0, 0, 0, 0, 0, 1);
        Shows.ends(y, NONE, NONE, NONE, NONE, NONE, NONE, NONE, NONE);
    }

    private static void noSamples() {
        Check.sentence("IV: a CUT without SAMPLES");
        for (int n = 1; n <= 8; n++) {
            GreatSort x = Given.rising(19);
            x.runs(1);
            Check.due("cut(" + n + ", 20)", x.cut(n, 20), 0);
            for (int j = 0; j < n - 1; j++) {
                Check.due("rows of part " + j, x.part(j, 0), 0);
                Check.due("end of part " + j, x.part(j, 3), NONE);
            }
            Check.due("all in the last", x.part(n - 1, 0), 19);
            Check.due("parts", x.count(3), n);
            Check.due("samples", x.count(2), 0);
            Check.due("bound", x.bound(), 19);
        }
    }

    private static void partsWithTheSameEnd() {
        Check.sentence("IV: each what is behind the end ahead of it");
        GreatSort x = Given.rising(5);
        x.runs(1);
        Check.due("one sample, three parts", x.cut(3, 4), 1);
        Shows.sizes(x, 0, 0, 5);
        Check.due("two samples, seven parts", x.cut(7, 2), 2);
        // floor(2 j / 7) - 1: -1 -1 -1 0 0 0.
        Shows.ends(x, NONE, NONE, NONE, 1, 1, 1, NONE);
        Shows.sizes(x, 0, 0, 0, 2, 0, 0, 3);
    }

    private static void onePartHasAll() {
        Check.sentence("IV: the last PART the rest, of one PART");
        for (int e : new int[] {1, 20}) {
            GreatSort x = Given.falling(400);
            x.runs(3);
            Check.due("samples", x.cut(1, e), e == 1 ? 400 : 0);
            Shows.sizes(x, 400);
            Shows.ends(x, NONE);
            Shows.liesOn(x, 0);
        }
    }

    private static void theLastPartHasTheRest() {
        Check.sentence("IV: the last PART the rest");
        GreatSort x = Given.rising(10);
        x.runs(1);
        Check.due("samples 3 and 7", x.cut(2, 4), 2);
        Shows.sizes(x, 4, 6);
        Shows.ends(x, 3, NONE);
        // The last SAMPLE is the last ROW; it ends no PART.
        Check.due("samples 4 and 9", x.cut(2, 5), 2);
        Shows.sizes(x, 5, 5);
        Shows.ends(x, 4, NONE);
        for (int n = 1; n <= 8; n++) {
            x.cut(n, 3);
            int rows = 0;
            for (int j = 0; j < n; j++) {
                rows += x.part(j, 0);
            }
            Check.due("all rows are in a part", rows, 10);
        }
    }

    private static void partsOfRowsOfRuns() {
        Check.sentence("IV: PART 0 has all ROWS (of RUNS) up to it");
        GreatSort x = Given.of(10, 20);
        x.runs(1);
        x.give(0, 5);
        x.give(0, 15);
        x.give(0, 25);
        Check.due("samples", x.cut(2, 1), 2);
        Shows.sizes(x, 1, 1);
        Shows.ends(x, 0, NONE);
        x.runs(1);
        Check.due("samples of all", x.cut(2, 1), 5);
        Shows.ends(x, 0, NONE);
        Shows.sizes(x, 2, 3);
    }

    private static void theMostSamples() {
        Check.sentence("IV: of all m SAMPLES, the most that can be");
        GreatSort x = Given.falling(400);
        x.runs(40);
        Check.due("cut(8, 1)", x.cut(8, 1), 400);
        Shows.sizes(x, 50, 50, 50, 50, 50, 50, 50, 50);
        Shows.ends(x, 350, 300, 250, 200, 150, 100, 50, NONE);
        Check.due("cut(7, 1)", x.cut(7, 1), 400);
        Shows.sizes(x, 57, 57, 57, 57, 57, 57, 58);
    }

    private static void cutWithoutARun() {
        Check.sentence("18: NONE if there is no RUN");
        for (int n : new int[] {1, 8}) {
            for (int e : new int[] {1, 20}) {
                for (Supplier<GreatSort> stage : Given.WITHOUT_RUNS) {
                    Refused.from(stage, "cut(" + n + ", " + e + ")", x -> x.cut(n, e), NONE);
                }
            }
        }
        Check.due("of one row", Given.ofRuns(1).cut(1, 1), 1);
    }

    private static void cutRefusesNumbers() {
        Check.sentence("18: NONE if a number can't be");
        for (int n : Refused.outside(1, 8)) {
            for (int e : Refused.outside(1, 20)) {
                Refused.from(Given::runs, "cut(" + n + ", " + e + ")", x -> x.cut(n, e), NONE);
                Refused.from(Given::atWork, "cut(" + n + ", " + e + ")", x -> x.cut(n, e), NONE);
            }
        }
        Check.due("the least ones", Given.runs().cut(1, 1), 8);
        Check.due("the greatest ones", Given.runs().cut(8, 20), 0);
    }

    private static void workAtAnEarlierCutGoes() {
        Check.sentence("18: (Work at an earlier one goes.)");
        GreatSort x = Given.atEnd();
        Check.due("the same cut again", x.cut(4, 1), 8);
        Shows.work(x, 0, 0, 0, 0, 0);
        Shows.merged(x, 0, 0, 0, 0);
        for (int host = 0; host < 8; host++) {
            Check.due("host(" + host + ", 4)", x.host(host, 4), 0);
        }
        Check.due("no end", x.end(0), NONE);
        // HOSTS 2, 3 and 5 are DOWN: PARTS 2 and 3 lie on the first two that have none.
        Shows.liesOn(x, 0, 1, 4, 6);
        x.tick();
        Check.due("nothing is merged again", x.work(2), 0);
        Check.due("fewer parts", x.cut(1, 1), 8);
        Check.due("part 1 went", x.part(1, 0), NOT_THERE);
        Check.due("the plan stays", x.merges(), 3);
        Check.due("what was merged stays", x.length(6), 8);
        Check.due("the runs stay", x.count(1), 4);
    }

    private static void boundOfTheLeastWhole() {
        Check.sentence("IV: BOUND: e times the least whole not below m / n");
        for (int n = 1; n <= 8; n++) {
            for (int m = 1; m <= 17; m++) {
                GreatSort x = Given.rising(m);
                x.runs(1);
                x.cut(n, 1);
                int whole = 0;
                while (whole * n < m) {
                    whole++;
                }
                Check.due("bound of " + m + " for " + n, x.bound(), whole);
            }
        }
        GreatSort y = Given.rising(400);
        y.runs(1);
        y.cut(1, 1);
        Check.due("all", y.bound(), 400);
        y.cut(8, 20);
        Check.due("20 samples, 3 a part", y.bound(), 20 * 3 + 19);
        y.cut(4, 20);
        Check.due("20 samples, 5 a part", y.bound(), 20 * 5 + 19);
        y.cut(3, 20);
        Check.due("20 samples, 7 a part", y.bound(), 20 * 7 + 19);
    }

    private static void boundByRuns() {
        Check.sentence("IV: and (e - 1) times the number of RUNS");
        GreatSort x = Given.falling(400);
        x.runs(1);
        x.cut(8, 20);
        Check.due("no samples", x.bound(), 19 * 400);
        x.cut(8, 1);
        Check.due("by each row", x.bound(), 50);
        x.cut(8, 2);
        Check.due("by each second row", x.bound(), 400);
        GreatSort y = Given.ofRuns(4, 4, 4);
        y.cut(2, 4);
        Check.due("3 samples of 3 runs", y.bound(), 4 * 2 + 3 * 3);
    }

    private static void boundIsSure() {
        Check.sentence("IV: no PART has more ROWS than BOUND");
        for (int n = 1; n <= 8; n++) {
            for (int e = 1; e <= 20; e++) {
                GreatSort x = new GreatSort();
                x.sow(0, 100, n * e, 1, 50);
                x.sow(1, 70, e, -1, 9);
                x.runs(1 + (n * e) % 12);
                x.cut(n, e);
                int all = 0;
                for (int j = 0; j < n; j++) {
                    Check.due("part " + j + " of " + n + " by " + e, x.part(j, 0) <= x.bound(), true);
                    all += x.part(j, 0);
                }
                Check.due("all rows", all, 170);
            }
        }
    }

    private static void boundWithoutACut() {
        Check.sentence("19: NONE without one");
        for (Supplier<GreatSort> stage : Given.WITHOUT_A_CUT) {
            Check.due("bound()", stage.get().bound(), NONE);
        }
        GreatSort x = Given.runs();
        x.cut(9, 1);
        Check.due("refused", x.bound(), NONE);
        x.cut(8, 1);
        Check.due("cut", x.bound(), 1);
        x.cut(0, 1);
        Check.due("refused, it stays", x.bound(), 1);
        x.runs(1);
        Check.due("runs anew", x.bound(), NONE);
    }

    private static void partThatIsNotThere() {
        Check.sentence("20: -2 if there is none such");
        for (Supplier<GreatSort> stage : Given.STAGES) {
            GreatSort x = stage.get();
            int parts = x.count(3);
            for (int j : Refused.outside(0, parts - 1)) {
                for (int what = -1; what <= 4; what++) {
                    Check.due("part(" + j + ", " + what + ") of " + parts, x.part(j, what), NOT_THERE);
                }
            }
        }
        GreatSort y = Given.ofParts(8, 1);
        Check.due("the last one", y.part(7, 0), 1);
        Check.due("none behind", y.part(8, 0), NOT_THERE);
        y.cut(2, 1);
        Check.due("one that went", y.part(2, 0), NOT_THERE);
        Check.due("one that went", y.part(7, 0), NOT_THERE);
    }

    private static void partOfOtherThings() {
        Check.sentence("20: Of PART j: 0 ROWS, 1 how many are merged, 2 the HOST on which it lies, 3 the ROW that ends it");
        GreatSort x = Given.ofParts(2, 30);
        x.fall(1);
        x.pace(2, 7);
        x.tick();
        int[] due = {30, 7, 2, NONE};
        int[] dueFirst = {30, 10, 0, 29};
        for (int what = 0; what <= 3; what++) {
            Check.due("part(0, " + what + ")", x.part(0, what), dueFirst[what]);
            Check.due("part(1, " + what + ")", x.part(1, what), due[what]);
        }
        for (int what : Refused.outside(0, 3)) {
            Check.due("part(0, " + what + ")", x.part(0, what), NOT_THERE);
            Check.due("part(1, " + what + ")", x.part(1, what), NOT_THERE);
        }
    }

    private static void partOfAnEmptyOne() {
        Check.sentence("20: (the SAMPLE; NONE of an empty one by a number below 0, and of the last one)");
        GreatSort x = Given.withEmptyParts();
        Shows.sizes(x, 0, 0, 2, 0, 2);
        // PART 3 is empty, too, but by a number that is not below 0.
        Shows.ends(x, NONE, NONE, 1, 1, NONE);
        Shows.merged(x, 0, 0, 0, 0, 0);
        Shows.liesOn(x, 0, 1, 2, 3, 4);
        for (int host = 0; host < 8; host++) {
            x.fall(host);
        }
        Check.sentence("20: 2 the HOST on which it lies (NONE nowhere)");
        Shows.liesOn(x, NONE, NONE, NONE, NONE, NONE);
        x.rise(7);
        Shows.liesOn(x, 7, 7, 7, 7, 7);
    }
}
