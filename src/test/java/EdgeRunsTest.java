import java.util.function.Supplier;

/** Terms II and III and promises 10 to 17: a test for each sentence that names a boundary case. */
public final class EdgeRunsTest {
    private static final int NONE = -1;

    private EdgeRunsTest() {
    }

    public static void main(String[] args) {
        roomIs1To40();
        theHeapIsFilledWithTheFirstRows();
        oneThatDoesNotStandAheadGoesBehind();
        theNextRowTakesItsPlace();
        ifAllStandAheadANewRunBegins();
        runsAreNumberedFrom0On();
        laterRowsAreInNoRun();
        runsOfTheEdgesOfTheOrder();
        runsOfNoRows();
        waysAre2To8();
        theFirstMergeTakesFewer();
        theFewestRowsFirst();
        ofAsManyTheLesserNumber();
        withoutMergesItMoves0();
        theQueueTakesTheLongestThere();
        planAndQueueOfMostRuns();
        runsAreMadeAnewOfAllRows();
        runsAreMadeAnewManyTimes();
        withRunsMadeAnewAllElseGoes();
        runsRefuseARoom();
        lengthOfARunThatIsNotThere();
        lengthOfMerges();
        atAPlaceThatIsNotThere();
        planWithoutARun();
        planAnew();
        planAnewOfMostRuns();
        queueWithoutARun();
        queueKeepsThePlan();
        mergesWithoutAPlan();
        takesThatAreNotThere();
        mergeWithNoPlanSinceRunsWereMade();
        mergeOfNoMerges();
        oneLookFewerThanRunsThatAreLeft();
        looksOfManyMerges();
        mergeAgain();
        Check.end();
    }

    private static void roomIs1To40() {
        Check.sentence("II: a HEAP with room for so many ROWS (1 .. 40)");
        for (int room = 1; room <= 40; room++) {
            // Of falling ROWS just those that the HEAP holds make a RUN.
            GreatSort x = Given.falling(400);
            int due = (400 + room - 1) / room;
            Check.due("runs(" + room + ")", x.runs(room), due);
            Check.due("length of the first", x.length(0), room);
            Check.due("length of the last", x.length(due - 1), 400 - (due - 1) * room);
            Check.due("first of the first", x.at(0, 0), room - 1);
            Check.due("last of the first", x.at(0, room - 1), 0);
        }
        for (int room : Refused.outside(1, 40)) {
            Refused.atEachStage("runs(" + room + ")", x -> x.runs(room), NONE);
        }
        Refused.atEachStage("runs(-1)", x -> x.runs(-1), NONE);
    }

    private static void theHeapIsFilledWithTheFirstRows() {
        Check.sentence("II: it is filled with the first ROWS");
        GreatSort x = Given.of(3, 2, 1);
        Check.due("room for one more than there are", x.runs(4), 1);
        Shows.run(x, 0, 2, 1, 0);
        Check.due("room for just those", x.runs(3), 1);
        Shows.run(x, 0, 2, 1, 0);
        Check.due("room for one fewer", x.runs(2), 2);
        Shows.run(x, 0, 1, 0);
        Shows.run(x, 1, 2);
        GreatSort y = Given.of(7);
        Check.due("one row, room for one", y.runs(1), 1);
        Shows.run(y, 0, 0);
        Check.due("one row, room for 40", y.runs(40), 1);
        Shows.run(y, 0, 0);
    }

    private static void oneThatDoesNotStandAheadGoesBehind() {
        Check.sentence("II: the first one of it in THE ORDER that does not stand ahead of the RUN's last ROW goes behind that");
        GreatSort x = Given.of(5, 5, 5);
        Check.due("like keys", x.runs(1), 1);
        Shows.run(x, 0, 0, 1, 2);
        GreatSort y = Given.of(5, 4, 5);
        Check.due("one less", y.runs(1), 2);
        Shows.run(y, 0, 0);
        Shows.run(y, 1, 1, 2);
        GreatSort z = new GreatSort();
        z.falls(0, true);
        z.give(0, -100000);
        z.give(0, -100000);
        z.give(0, 100000);
        z.give(1, -100000);
        Check.due("falling", z.runs(1), 2);
        Shows.run(z, 0, 0, 1);
        Shows.run(z, 1, 2, 3);
        // 4 stands ahead of 5 and waits; 6 does not, and goes though it is not the first one of the HEAP.
        GreatSort w = Given.of(5, 6, 4);
        Check.due("one waits", w.runs(2), 2);
        Shows.run(w, 0, 0, 1);
        Shows.run(w, 1, 2);
    }

    private static void theNextRowTakesItsPlace() {
        Check.sentence("II: and the next ROW that came takes its place");
        GreatSort x = Given.of(2, 9, 3, 4, 5);
        Check.due("each goes on", x.runs(2), 1);
        Shows.run(x, 0, 0, 2, 3, 4, 1);
        // A ROW that waits keeps its place: with 1 in the HEAP there is room for one other only.
        GreatSort y = Given.of(5, 6, 1, 9, 8);
        Check.due("one waits", y.runs(2), 2);
        Shows.run(y, 0, 0, 1, 3);
        Shows.run(y, 1, 2, 4);
        GreatSort z = Given.rising(400);
        Check.due("longer than its room", z.runs(1), 1);
        Check.due("length", z.length(0), 400);
        Check.due("first", z.at(0, 0), 0);
        Check.due("last", z.at(0, 399), 399);
        Check.due("none behind", z.at(0, 400), NONE);
    }

    private static void ifAllStandAheadANewRunBegins() {
        Check.sentence("II: if all stand ahead, a new RUN begins");
        GreatSort x = Given.of(5, 6, 1, 2, 7, 8);
        Check.due("all wait", x.runs(2), 2);
        Shows.run(x, 0, 0, 1);
        Shows.run(x, 1, 2, 3, 4, 5);
        GreatSort y = Given.falling(400);
        Check.due("each time", y.runs(1), 400);
        for (int k = 0; k < 400; k += 57) {
            Shows.run(y, k, k);
        }
        Shows.run(y, 399, 399);
    }

    private static void runsAreNumberedFrom0On() {
        Check.sentence("II: RUNS are numbered from 0 on");
        GreatSort x = Given.ofRuns(1, 2, 3);
        Shows.run(x, 0, 0);
        Shows.run(x, 1, 1, 2);
        Shows.run(x, 2, 3, 4, 5);
        Check.due("length(3)", x.length(3), NONE);
        x.runs(40);
        Check.due("anew, from 0 on", x.length(0), 6);
        Check.due("length(1)", x.length(1), NONE);
    }

    private static void laterRowsAreInNoRun() {
        Check.sentence("II: ROWS that come later are in no RUN");
        GreatSort x = Given.of(3, 1);
        x.runs(1);
        Check.due("give", x.give(0, 9), 2);
        Check.due("sow", x.sow(0, 3, 1, 1, 1), 6);
        Check.due("count(1)", x.count(1), 2);
        Shows.run(x, 0, 0);
        Shows.run(x, 1, 1);
        Check.due("plan", x.plan(2), 2);
        Check.due("merge", x.merge(), 1);
        Shows.run(x, 2, 1, 0);
        Check.due("samples", x.cut(1, 1), 2);
        Shows.sizes(x, 2);
        Check.due("tick", x.tick(), 2);
        Check.due("end", x.end(2), NONE);
        GreatSort y = new GreatSort();
        y.runs(1);
        y.give(0, 1);
        Check.due("there are still none", y.count(1), 0);
        Check.due("none", y.length(0), NONE);
        Check.due("none to plan", y.plan(2), NONE);
    }

    private static void runsOfTheEdgesOfTheOrder() {
        Check.sentence("II: in THE ORDER, of the first KEY and the last KEY that can be");
        int[][] orders = {{0, 1, 2, 3}, {3, 2, 1, 0}};
        for (int[] o : orders) {
            for (int falling = 0; falling <= 1; falling++) {
                int least = falling == 1 ? 100000 : -100000;
                GreatSort x = new GreatSort();
                x.order(o[0], o[1], o[2], o[3]);
                x.falls(o[0], falling == 1);
                x.falls(o[3], falling == 1);
                x.give(o[3], -least);
                x.give(o[0], least);
                x.give(o[3], -least);
                x.give(o[3], least);
                x.give(o[0], -least);
                Check.due("room 1", x.runs(1), 4);
                Shows.run(x, 0, 0);
                Shows.run(x, 1, 1, 2);
                Shows.run(x, 2, 3);
                Shows.run(x, 3, 4);
                Check.due("room 2", x.runs(2), 2);
                Shows.run(x, 0, 1, 0, 2);
                Shows.run(x, 1, 4, 3);
                Check.due("room 40", x.runs(40), 1);
                Shows.run(x, 0, 1, 4, 3, 0, 2);
            }
        }
        GreatSort y = Given.rising(399);
        y.give(3, 100000);
        Check.due("the last row that can be", y.runs(1), 1);
        Check.due("it stands last", y.at(0, 399), 399);
    }

    private static void runsOfNoRows() {
        Check.sentence("10: how many, of no ROWS");
        for (int room = 1; room <= 40; room++) {
            Check.due("runs(" + room + ")", new GreatSort().runs(room), 0);
        }
        Shows.noRuns(Given.runsOfNoRows());
    }

    private static void waysAre2To8() {
        Check.sentence("III: PLANS of merges by k ways (2 .. 8)");
        for (int k = 2; k <= 8; k++) {
            GreatSort x = Given.falling(k);
            x.runs(1);
            Check.due("plan(" + k + ")", x.plan(k), k);
            Check.due("takes all", x.takes(0, k - 1), k - 1);
            Check.due("queue(" + k + ")", x.queue(k), k);
        }
        for (int k : Refused.outside(2, 8)) {
            Refused.atEachStage("plan(" + k + ")", x -> x.plan(k), NONE);
            Refused.atEachStage("queue(" + k + ")", x -> x.queue(k), NONE);
        }
        for (int k = -1; k <= 0; k++) {
            int ways = k;
            Refused.atEachStage("plan(" + k + ")", x -> x.plan(ways), NONE);
            Refused.atEachStage("queue(" + k + ")", x -> x.queue(ways), NONE);
        }
    }

    private static void theFirstMergeTakesFewer() {
        Check.sentence("III: the first MERGE takes 2 + (RUNS - 2) modulo (k - 1) RUNS, each other one k");
        for (int k = 2; k <= 8; k++) {
            for (int runs = 2; runs <= 24; runs++) {
                GreatSort x = Given.falling(runs);
                x.runs(1);
                x.plan(k);
                int left = runs;
                int merges = 0;
                while (left > 1) {
                    int ways = merges == 0 ? firstWays(runs, k) : k;
                    Check.due("taken last", x.takes(merges, ways - 1) >= 0, true);
                    Check.due("none behind", x.takes(merges, ways), NONE);
                    left -= ways - 1;
                    merges++;
                }
                Check.due("one is left", left, 1);
                Check.due("merges of " + runs + " by " + k, x.merges(), merges);
            }
        }
    }

    /** 2 for 2 RUNS, 3 for 3, and so on up to k; then again from 2 on. */
    private static int firstWays(int runs, int k) {
        int ways = 2;
        for (int n = 2; n < runs; n++) {
            ways = ways == k ? 2 : ways + 1;
        }
        return ways;
    }

    private static void theFewestRowsFirst() {
        Check.sentence("III: always those with the fewest ROWS that are left, told in that order");
        GreatSort x = Given.ofRuns(4, 3, 2, 1);
        Check.due("by 4", x.plan(4), 10);
        Shows.takes(x, 0, 3, 2, 1, 0);
        Check.due("by 3", x.plan(3), 3 + 10);
        Shows.takes(x, 0, 3, 2);
        Shows.takes(x, 1, 1, 4, 0);
        Check.due("by 2", x.plan(2), 3 + 6 + 10);
        Shows.takes(x, 0, 3, 2);
        Shows.takes(x, 1, 1, 4);
        Shows.takes(x, 2, 0, 5);
        GreatSort y = Given.ofRuns(40, 1);
        Check.due("two by 8", y.plan(8), 41);
        Shows.takes(y, 0, 1, 0);
    }

    private static void ofAsManyTheLesserNumber() {
        Check.sentence("III: (of as many those with the lesser number)");
        GreatSort x = Given.ofRuns(2, 1, 1, 2);
        Check.due("by 2", x.plan(2), 2 + 4 + 6);
        Shows.takes(x, 0, 1, 2);
        // RUN 4 has two ROWS like RUNS 0 and 3, which have lesser numbers.
        Shows.takes(x, 1, 0, 3);
        Shows.takes(x, 2, 4, 5);
        GreatSort y = Given.ofRuns(1, 1, 1, 1, 1, 1, 1, 1);
        Check.due("by 8", y.plan(8), 8);
        Shows.takes(y, 0, 0, 1, 2, 3, 4, 5, 6, 7);
        Check.due("by 7", y.plan(7), 2 + 8);
        Shows.takes(y, 0, 0, 1);
        Shows.takes(y, 1, 2, 3, 4, 5, 6, 7, 8);
    }

    private static void withoutMergesItMoves0() {
        Check.sentence("III: Without MERGES (one RUN, or none) it moves 0");
        for (int rows : new int[] {1, 2, 400}) {
            GreatSort x = Given.rising(rows);
            x.runs(1);
            for (int k = 2; k <= 8; k++) {
                Check.due("plan(" + k + ")", x.plan(k), 0);
                Check.due("queue(" + k + ")", x.queue(k), 0);
                Shows.noPlan(x);
            }
        }
        GreatSort y = Given.ofRuns(1, 1);
        Check.due("of two it moves some", y.plan(2), 2);
        Check.due("of two it moves some", y.queue(2), 2);
    }

    private static void theQueueTakesTheLongestThere() {
        Check.sentence("III: THE QUEUE: the same numbers of RUNS, but always those that have been there longest");
        GreatSort x = Given.ofRuns(1, 2, 3, 4);
        Check.due("by 2", x.queue(2), 3 + 7 + 10);
        Check.due("by 3", x.queue(3), 3 + 10);
        Check.due("by 4", x.queue(4), 10);
        Check.due("by 8", x.queue(8), 10);
        GreatSort y = Given.ofRuns(9, 8, 1, 1, 1);
        Check.due("by 2", y.queue(2), 17 + 2 + 18 + 20);
        Check.due("by 3", y.queue(3), 18 + 20);
        Check.due("by 4", y.queue(4), 17 + 20);
        Check.due("two", Given.ofRuns(3, 2).queue(8), 5);
    }

    private static void planAndQueueOfMostRuns() {
        Check.sentence("III: till one RUN is left, of the most RUNS that can be");
        for (int k = 2; k <= 8; k++) {
            GreatSort x = Given.falling(400);
            x.runs(1);
            int merges = (399 + k - 2) / (k - 1);
            int moved = x.plan(k);
            Check.due("merges", x.merges(), merges);
            Check.due("none behind", x.takes(merges, 0), NONE);
            Check.due("the last one takes the one ahead of it", x.takes(merges - 1, k - 1), 400 + merges - 2);
            x.merge();
            Check.due("the last run has all", x.length(399 + merges), 400);
            Check.due("its first", x.at(399 + merges, 0), 399);
            Check.due("its last", x.at(399 + merges, 399), 0);
            Check.due("none behind", x.length(400 + merges), NONE);
            int made = 0;
            for (int i = 400; i < 400 + merges; i++) {
                made += x.length(i);
            }
            Check.due("moves what the new ones have", moved, made);
        }
        GreatSort y = Given.falling(400);
        y.runs(1);
        // Nine rounds: 144 pairs first, then 256 RUNS eight times; for RUNS of one ROW THE QUEUE does no worse.
        Check.due("plan(2)", y.plan(2), 400 * 8 + 2 * 144);
        Check.due("queue(2)", y.queue(2), 400 * 8 + 2 * 144);
    }

    private static void runsAreMadeAnewOfAllRows() {
        Check.sentence("10: RUNS are made anew of all ROWS");
        GreatSort x = Given.ofRuns(1, 1);
        x.give(0, 500);
        Check.due("with the later one", x.runs(1), 2);
        Shows.run(x, 0, 0);
        Shows.run(x, 1, 1, 2);
        Check.due("with another room", x.runs(2), 1);
        Shows.run(x, 0, 1, 0, 2);
        x.clear();
        Check.due("of none", x.runs(2), 0);
        Check.due("none", x.length(0), NONE);
    }

    private static void runsAreMadeAnewManyTimes() {
        Check.sentence("10: RUNS are made anew of all ROWS, many times");
        GreatSort x = Given.falling(400);
        for (int i = 0; i < 20; i++) {
            Check.due("400 runs", x.runs(1), 400);
            x.plan(2);
            x.merge();
            Check.due("10 runs", x.runs(40), 10);
        }
        Shows.run(x, 9, 399, 398, 397, 396, 395, 394, 393, 392, 391, 390, 389, 388, 387, 386, 385, 384, 383, 382, 381,
                380, 379, 378, 377, 376, 375, 374, 373, 372, 371, 370, 369, 368, 367, 366, 365, 364, 363, 362, 361, 360);
        for (int i = 0; i < 20; i++) {
            Check.due("clear", x.clear(), i == 0 ? 400 : 200);
            x.sow(1, 100, 1, -1, 1);
            x.sow(1, 100, 1, -1, 1);
            Check.due("200 runs", x.runs(1), 200);
            Check.due("the last one", x.at(199, 0), 199);
        }
    }

    private static void withRunsMadeAnewAllElseGoes() {
        Check.sentence("10: (PLAN, what was MERGED and CUT go)");
        for (Supplier<GreatSort> stage : Given.WITH_RUNS) {
            GreatSort x = stage.get();
            Check.due("with the same room", x.runs(1), 4);
            Shows.noPlan(x);
            Check.due("merge", x.merge(), NONE);
            for (int k = 4; k < 8; k++) {
                Check.due("length(" + k + ")", x.length(k), NONE);
                Check.due("at(" + k + ", 0)", x.at(k, 0), NONE);
            }
            Shows.noCut(x);
            Check.due("paces stay", x.host(1, 0), 3);
            Check.due("down stays", x.host(5, 1), 0);
        }
    }

    private static void runsRefuseARoom() {
        Check.sentence("10: NONE if the room can't be");
        for (int room : Refused.outside(1, 40)) {
            Check.due("of no rows", new GreatSort().runs(room), NONE);
            Check.due("of 400", Given.rising(400).runs(room), NONE);
        }
        Check.due("40 of 400", Given.rising(400).runs(40), 1);
        Check.due("1 of 400", Given.rising(400).runs(1), 1);
    }

    private static void lengthOfARunThatIsNotThere() {
        Check.sentence("11: NONE if there is none such");
        for (Supplier<GreatSort> stage : Given.STAGES) {
            GreatSort x = stage.get();
            int runs = x.count(1);
            int merged = x.length(runs) == NONE ? 0 : 3;
            for (int k : Refused.outside(0, runs + merged - 1)) {
                Check.due("length(" + k + ")", x.length(k), NONE);
                Check.due("at(" + k + ", 0)", x.at(k, 0), NONE);
            }
            for (int k = 0; k < runs + merged; k++) {
                Check.due("length(" + k + ")", x.length(k) > 0, true);
            }
        }
    }

    private static void lengthOfMerges() {
        Check.sentence("11: of MERGES, too, if they were done by merge()");
        GreatSort x = Given.ofRuns(2, 1, 1);
        x.plan(2);
        Check.due("not done", x.length(3), NONE);
        Check.due("not done", x.at(3, 0), NONE);
        x.queue(2);
        Check.due("not done by a queue", x.length(3), NONE);
        x.merge();
        Shows.run(x, 3, 3, 2);
        Shows.run(x, 4, 3, 2, 0, 1);
        Check.due("none behind", x.length(5), NONE);
        x.plan(2);
        Check.due("the merges of a new plan are not done", x.length(3), NONE);
        Check.due("the runs of II stay", x.length(2), 1);
        x.merge();
        Check.due("done again", x.length(4), 4);
    }

    private static void atAPlaceThatIsNotThere() {
        Check.sentence("12: NONE if there is none such");
        GreatSort x = Given.ofRuns(3, 1);
        x.plan(2);
        x.merge();
        int[] lengths = {3, 1, 4};
        for (int k = 0; k < 3; k++) {
            for (int i : Refused.outside(0, lengths[k] - 1)) {
                Check.due("at(" + k + ", " + i + ")", x.at(k, i), NONE);
                Check.due("at(3, " + i + ")", x.at(3, i), NONE);
                Check.due("at(-1, " + i + ")", x.at(-1, i), NONE);
            }
            Check.due("the first", x.at(k, 0) >= 0, true);
            Check.due("the last", x.at(k, lengths[k] - 1) >= 0, true);
        }
    }

    private static void planWithoutARun() {
        Check.sentence("13: NONE if there is no RUN (none made, or of no ROWS)");
        for (int k = 2; k <= 8; k++) {
            int ways = k;
            for (Supplier<GreatSort> stage : Given.WITHOUT_RUNS) {
                Refused.from(stage, "plan(" + k + ")", x -> x.plan(ways), NONE);
            }
        }
        Check.due("of one row", Given.ofRuns(1).plan(2), 0);
    }

    private static void planAnew() {
        Check.sentence("13: THE PLAN by k ways is told");
        GreatSort x = Given.ofRuns(1, 1, 1);
        Check.due("by 2", x.plan(2), 2 + 3);
        Check.due("by 3", x.plan(3), 3);
        Check.due("the new one", x.merges(), 1);
        Check.due("none of the old one", x.takes(1, 0), NONE);
        Check.due("refused", x.plan(9), NONE);
        Check.due("it stays", x.merges(), 1);
        Check.due("by 2 again", x.plan(2), 5);
        Shows.takes(x, 0, 0, 1);
        Shows.takes(x, 1, 2, 3);
        Check.due("it is done", x.merge(), 1 + 1);
        Check.due("it is planned for the runs of II when merges are done", x.plan(3), 3);
        Shows.takes(x, 0, 0, 1, 2);
    }

    private static void planAnewOfMostRuns() {
        Check.sentence("13: THE PLAN by k ways is told, anew and of the most RUNS");
        GreatSort x = Given.falling(400);
        x.runs(1);
        int[] moved = new int[9];
        for (int k = 2; k <= 8; k++) {
            GreatSort y = Given.falling(400);
            y.runs(1);
            moved[k] = y.plan(k);
        }
        for (int i = 0; i < 5; i++) {
            for (int k = 8; k >= 2; k--) {
                Check.due("plan(" + k + ")", x.plan(k), moved[k]);
                Check.due("it takes the first run", x.takes(0, 0), 0);
                Check.due("merges", x.merges(), (399 + k - 2) / (k - 1));
            }
        }
    }

    private static void queueWithoutARun() {
        Check.sentence("14: NONE likewise");
        for (int k = 2; k <= 8; k++) {
            int ways = k;
            for (Supplier<GreatSort> stage : Given.WITHOUT_RUNS) {
                Refused.from(stage, "queue(" + k + ")", x -> x.queue(ways), NONE);
            }
        }
        Check.due("of one row", Given.ofRuns(1).queue(2), 0);
    }

    private static void queueKeepsThePlan() {
        Check.sentence("14: (THE PLAN stays)");
        // Four RUNS of eight ROWS: by 3 ways the first two, then all that are left.
        for (Supplier<GreatSort> stage : Given.WITH_RUNS) {
            GreatSort x = stage.get();
            int moved = x.length(0) + x.length(1);
            Refused.from(stage, "queue(3)", y -> y.queue(3), moved + 8);
            Refused.from(stage, "queue(8)", y -> y.queue(8), 8);
        }
        GreatSort z = Given.runs();
        z.queue(2);
        Check.due("it tells no plan", z.merge(), NONE);
        Check.due("it tells no plan", z.merges(), 0);
    }

    private static void mergesWithoutAPlan() {
        Check.sentence("15: (0 without one)");
        Check.due("new", new GreatSort().merges(), 0);
        Check.due("without runs", Given.rows().merges(), 0);
        Check.due("with runs", Given.runs().merges(), 0);
        GreatSort x = Given.runs();
        x.plan(1);
        Check.due("refused", x.merges(), 0);
        Check.due("planned", Given.planned().merges(), 3);
        Check.due("merged", Given.merged().merges(), 3);
        Check.due("with a cut", Given.atEnd().merges(), 3);
        Check.due("cleared", Given.cleared().merges(), 0);
        GreatSort y = Given.ofRuns(5);
        y.plan(2);
        Check.due("of one run", y.merges(), 0);
    }

    private static void takesThatAreNotThere() {
        Check.sentence("16: NONE if there is none such");
        GreatSort x = Given.ofRuns(1, 1, 1, 1);
        for (int i = 0; i < 3; i++) {
            Check.due("without a plan", x.takes(i, 0), NONE);
        }
        x.plan(3);
        Shows.takes(x, 0, 0, 1);
        Shows.takes(x, 1, 2, 3, 4);
        for (int i : Refused.outside(0, 1)) {
            for (int j = -1; j <= 3; j++) {
                Check.due("takes(" + i + ", " + j + ")", x.takes(i, j), NONE);
            }
        }
        for (int j : Refused.outside(0, 1)) {
            Check.due("takes(0, " + j + ")", x.takes(0, j), NONE);
        }
        for (int j : Refused.outside(0, 2)) {
            Check.due("takes(1, " + j + ")", x.takes(1, j), NONE);
        }
        x.runs(1);
        Check.due("it went", x.takes(0, 0), NONE);
    }

    private static void mergeWithNoPlanSinceRunsWereMade() {
        Check.sentence("17: NONE if none is told since RUNS were made");
        for (Supplier<GreatSort> stage : Given.WITHOUT_RUNS) {
            Refused.from(stage, "without runs", GreatSort::merge, NONE);
        }
        Refused.from(Given::runs, "none told", GreatSort::merge, NONE);
        Refused.from(Given::runsAnew, "told before runs were made", GreatSort::merge, NONE);
        GreatSort x = Given.runs();
        x.queue(2);
        Check.due("only a queue", x.merge(), NONE);
        x.plan(9);
        Check.due("refused", x.merge(), NONE);
        x.plan(2);
        Check.due("told", x.merge() > 0, true);
        x.runs(1);
        Check.due("told before runs were made", x.merge(), NONE);
        x.plan(2);
        x.runs(41);
        Check.due("told, and no runs made since", x.merge() > 0, true);
    }

    private static void mergeOfNoMerges() {
        Check.sentence("17: (of no MERGES: 0)");
        for (int rows : new int[] {1, 400}) {
            GreatSort x = Given.rising(rows);
            x.runs(1);
            Check.due("none told", x.merge(), NONE);
            x.plan(2);
            Check.due("told", x.merge(), 0);
            Check.due("no new run", x.length(1), NONE);
            Check.due("the run stays", x.length(0), rows);
            x.runs(1);
            Check.due("none told", x.merge(), NONE);
        }
    }

    private static void oneLookFewerThanRunsThatAreLeft() {
        Check.sentence("17: (one look fewer than these are)");
        for (int k = 2; k <= 8; k++) {
            GreatSort x = Given.falling(k);
            x.runs(1);
            x.plan(k);
            Check.due("runs of one row by " + k, x.merge(), k * (k - 1) / 2);
        }
        GreatSort y = Given.ofRuns(40, 1);
        y.plan(2);
        Check.due("the short one is ahead of all", y.merge(), 1);
        GreatSort z = Given.of(5, 6, 7, 6);
        z.runs(1);
        z.plan(8);
        Check.due("the short one stands between", z.merge(), 3);
        Shows.run(z, 2, 0, 1, 3, 2);
        GreatSort w = Given.of(5, 6, 7, 6, 4);
        w.runs(1);
        w.plan(3);
        Check.due("three, then two, then one", w.merge(), 2 + 1 + 1 + 1);
        Shows.run(w, 3, 4, 0, 1, 3, 2);
    }

    private static void looksOfManyMerges() {
        Check.sentence("17: All MERGES of THE PLAN are done");
        // k RUNS of s ROWS, each wholly ahead of those before it: s times k - 1, k - 2, .. 0 looks.
        looksFor(256, 2, 8 * 256 / 2);
        looksFor(256, 4, 4 * 256 * 3 / 2);
        looksFor(343, 7, 3 * 343 * 3);
        looksFor(64, 8, 2 * 64 * 7 / 2);
    }

    private static void looksFor(int rows, int k, int due) {
        GreatSort x = Given.falling(rows);
        x.runs(1);
        x.plan(k);
        Check.due("merge of " + rows + " by " + k, x.merge(), due);
        int last = rows + x.merges() - 1;
        Check.due("the last run", x.length(last), rows);
        for (int i = 0; i < rows; i++) {
            Check.due("at(" + last + ", " + i + ")", x.at(last, i), rows - 1 - i);
        }
    }

    private static void mergeAgain() {
        Check.sentence("17: All MERGES of THE PLAN are done, a second time");
        GreatSort x = Given.ofRuns(1, 1, 1);
        x.plan(2);
        Check.due("first", x.merge(), 2);
        Check.due("second", x.merge(), 2);
        Shows.run(x, 3, 1, 0);
        Shows.run(x, 4, 2, 1, 0);
        Check.due("none more", x.length(5), NONE);
        GreatSort y = Given.falling(400);
        y.runs(1);
        y.plan(2);
        int looks = y.merge();
        for (int i = 0; i < 100; i++) {
            Check.due("again", y.merge(), looks);
        }
        Check.due("none more", y.length(799), NONE);
        Check.due("the last one", y.length(798), 400);
    }
}
