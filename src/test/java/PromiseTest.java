/** For each promise of the document: ordinary inputs, the edges that it names, and wrong inputs, worked out by hand. */
public final class PromiseTest {
    private static final int NONE = -1;
    private static final int[] ODD = {Integer.MIN_VALUE, -1000001, -2, -1, 1000001, Integer.MAX_VALUE};

    private PromiseTest() {
    }

    public static void main(String[] args) {
        newObject();
        give();
        sow();
        clear();
        order();
        falls();
        row();
        against();
        rank();
        runs();
        runsOfLikeKeysAndShortHeaps();
        runsGoWithWhatWasMadeOfThem();
        lengthAndAt();
        plan();
        planOfOneRun();
        planOfMostRuns();
        queue();
        mergesAndTakes();
        merge();
        mergeAfterAnotherPlan();
        cut();
        cutWithEmptyParts();
        cutRefused();
        bound();
        part();
        pace();
        fall();
        fallTakesTheLeastLaden();
        fallOfAll();
        cutOnHostsThatAreDown();
        rise();
        host();
        tick();
        tickGoesOnWithTheNextPart();
        tickMeetsEmptyParts();
        work();
        workDoneAgain();
        end();
        count();
        Check.end();
    }

    private static void newObject() {
        GreatSort x = new GreatSort();
        for (int what = 0; what < 4; what++) {
            Check.due("1: count", x.count(what), 0);
        }
        Check.due("1: merges", x.merges(), 0);
        Check.due("1: merge", x.merge(), NONE);
        Check.due("1: plan", x.plan(2), NONE);
        Check.due("1: queue", x.queue(2), NONE);
        Check.due("1: cut", x.cut(1, 1), NONE);
        Check.due("1: bound", x.bound(), NONE);
        Check.due("1: tick", x.tick(), NONE);
        Check.due("1: end", x.end(0), NONE);
        Check.due("1: length", x.length(0), NONE);
        Check.due("1: at", x.at(0, 0), NONE);
        Check.due("1: takes", x.takes(0, 0), NONE);
        Check.due("1: part", x.part(0, 0), -2);
        Check.due("1: row", x.row(0, 0), -1000000);
        Check.due("1: clear", x.clear(), 0);
        for (int host = 0; host < 8; host++) {
            Check.due("1: pace", x.host(host, 0), 10);
            Check.due("1: up", x.host(host, 1), 1);
        }
    }

    private static void give() {
        GreatSort x = new GreatSort();
        Check.due("2: first", x.give(0, 7), 0);
        Check.due("2: second", x.give(3, -7), 1);
        Check.due("2: greatest", x.give(1, 100000), 2);
        Check.due("2: least", x.give(2, -100000), 3);
        Check.due("2: too great", x.give(1, 100001), NONE);
        Check.due("2: too little", x.give(1, -100001), NONE);
        Check.due("2: sort 4", x.give(4, 0), NONE);
        for (int odd : ODD) {
            Check.due("2: odd sort", x.give(odd, 0), NONE);
        }
        Check.due("2: odd value", x.give(0, Integer.MIN_VALUE), NONE);
        Check.due("2: odd value", x.give(0, Integer.MAX_VALUE), NONE);
        Check.due("2: none more", x.count(0), 4);
        for (int i = 4; i < 400; i++) {
            Check.due("2: give", x.give(i % 4, i), i);
        }
        Check.due("2: full", x.give(0, 0), NONE);
        Check.due("2: still 400", x.count(0), 400);
    }

    private static void sow() {
        GreatSort x = new GreatSort();
        x.give(0, 0);
        Check.due("3: sow", x.sow(2, 3, 0, 10, 100), 4);
        // g: 12345, then 1103515245 * 12345 + 12345 = 3554416254 (as an int), then 2802067423.
        Check.due("3: sort", x.row(1, 0), 2);
        Check.due("3: value", x.row(1, 1), 10 + (12345 >> 8) % 100);
        Check.due("3: value", x.row(2, 1), 20 + (int) ((3554416254L >> 8) % 100));
        Check.due("3: value", x.row(3, 1), 30 + (int) ((2802067423L >> 8) % 100));
        sowWrong(x);
        sowEdges();
    }

    private static void sowWrong(GreatSort x) {
        Check.due("3: sort 4", x.sow(4, 1, 1, 0, 1), NONE);
        Check.due("3: sort -1", x.sow(-1, 1, 1, 0, 1), NONE);
        Check.due("3: n 0", x.sow(0, 0, 1, 0, 1), NONE);
        Check.due("3: n 101", x.sow(0, 101, 1, 0, 1), NONE);
        Check.due("3: slope 101", x.sow(0, 1, 1, 101, 1), NONE);
        Check.due("3: slope -101", x.sow(0, 1, 1, -101, 1), NONE);
        Check.due("3: spread 0", x.sow(0, 1, 1, 0, 0), NONE);
        Check.due("3: spread 10001", x.sow(0, 1, 1, 0, 10001), NONE);
        for (int odd : ODD) {
            Check.due("3: odd n", x.sow(0, odd, 1, 0, 1), NONE);
            Check.due("3: odd spread", x.sow(0, 1, 1, 0, odd), NONE);
        }
        Check.due("3: nothing done", x.count(0), 4);
    }

    private static void sowEdges() {
        GreatSort x = new GreatSort();
        Check.due("3: 100", x.sow(0, 100, -1, 100, 10000), 100);
        Check.due("3: 200", x.sow(1, 100, Integer.MIN_VALUE, -100, 1), 200);
        Check.due("3: slope -100, spread 1", x.row(199, 1), -19900);
        long g = 0xFFFFFFFFL;
        for (int i = 0; i < 100; i++) {
            g = (1103515245L * g + 12345) & 0xFFFFFFFFL;
            Check.due("3: value " + i, x.row(i, 1), i * 100 + (g >> 8) % 10000);
        }
        Check.due("3: 300", x.sow(1, 100, 3, 0, 1), 300);
        Check.due("3: 399", x.sow(1, 99, 3, 0, 1), 399);
        Check.due("3: would be 401", x.sow(1, 2, 3, 0, 1), NONE);
        Check.due("3: nothing done", x.count(0), 399);
        Check.due("3: 400", x.sow(1, 1, 3, 0, 1), 400);
        Check.due("3: would be 401", x.sow(1, 1, 3, 0, 1), NONE);
    }

    private static void clear() {
        GreatSort x = Given.of(3, 2, 1);
        x.falls(0, true);
        x.order(3, 2, 1, 0);
        x.pace(2, 7);
        x.runs(2);
        x.plan(2);
        x.merge();
        x.cut(2, 1);
        x.fall(5);
        x.tick();
        Check.due("4: clear", x.clear(), 3);
        for (int what = 0; what < 4; what++) {
            Check.due("4: count", x.count(what), 0);
        }
        Check.due("4: row", x.row(0, 1), -1000000);
        Check.due("4: length", x.length(0), NONE);
        Check.due("4: merges", x.merges(), 0);
        Check.due("4: merge", x.merge(), NONE);
        Check.due("4: bound", x.bound(), NONE);
        Check.due("4: work", x.work(0), NONE);
        Check.due("4: tick", x.tick(), NONE);
        Check.due("4: part", x.part(0, 0), -2);
        Check.due("4: merged by", x.host(0, 4), 0);
        Check.due("4: parts on", x.host(0, 2), 0);
        Check.due("4: pace stays", x.host(2, 0), 7);
        Check.due("4: down stays", x.host(5, 1), 0);
        Check.due("4: again", x.clear(), 0);
        Check.due("4: numbers from 0 on", x.give(0, 1), 0);
        x.give(0, 2);
        x.give(1, 0);
        Check.due("4: falling stays", x.against(0, 1), 1);
        Check.due("4: order stays", x.against(0, 2), 1);
    }

    private static void order() {
        GreatSort y = new GreatSort();
        for (int sort = 3; sort >= 0; sort--) {
            y.give(sort, 0);
        }
        Check.due("5: 0 1 2 3 at first", y.against(3, 2) + y.against(2, 1) + y.against(1, 0), -3);
        GreatSort x = new GreatSort();
        for (int sort = 0; sort < 4; sort++) {
            x.give(sort, 0);
        }
        Check.due("5: 0 1 2 3 at first", x.against(0, 1) + x.against(1, 2) + x.against(2, 3), -3);
        Check.due("5: turned", x.order(3, 2, 1, 0), true);
        Check.due("5: turned", x.against(3, 2) + x.against(2, 1) + x.against(1, 0), -3);
        Check.due("5: order", x.order(2, 0, 3, 1), true);
        Check.due("5: ranks", x.rank(2) * 1000 + x.rank(0) * 100 + x.rank(3) * 10 + x.rank(1), 123);
        int[][] wrong = {{0, 0, 1, 2}, {0, 1, 0, 2}, {0, 1, 2, 0}, {1, 0, 0, 2}, {1, 0, 2, 0}, {1, 2, 0, 0},
            {4, 1, 2, 3}, {0, 4, 2, 3}, {0, 1, 4, 3}, {0, 1, 2, 4}, {-1, 1, 2, 3}, {0, -1, 2, 3}, {0, 1, -1, 3},
            {0, 1, 2, -1}, {Integer.MIN_VALUE, 1, 2, 3}, {0, 1, 2, Integer.MAX_VALUE}};
        for (int[] w : wrong) {
            Check.due("5: not each once", x.order(w[0], w[1], w[2], w[3]), false);
        }
        Check.due("5: stays", x.rank(2) * 1000 + x.rank(0) * 100 + x.rank(3) * 10 + x.rank(1), 123);
        x.runs(4);
        Shows.run(x, 0, 2, 0, 3, 1);
        Check.due("5: there are runs", x.order(0, 1, 2, 3), false);
        Check.due("5: stays", x.rank(2), 0);
        x.clear();
        Check.due("5: no runs of no rows", x.runs(1), 0);
        Check.due("5: told again", x.order(3, 2, 1, 0), true);
    }

    private static void falls() {
        GreatSort x = Given.of(1, 2, 2);
        x.give(1, 1);
        x.give(1, 2);
        Check.due("6: falls", x.falls(0, true), true);
        Check.due("6: greater is ahead", x.against(0, 1), 1);
        Check.due("6: like keys by number", x.against(1, 2), -1);
        Check.due("6: another sort rises", x.against(3, 4), -1);
        Check.due("6: sorts keep their order", x.against(0, 3), -1);
        Check.due("6: rises again", x.falls(0, false), true);
        Check.due("6: lesser is ahead", x.against(0, 1), -1);
        Check.due("6: sort 4", x.falls(4, true), false);
        Check.due("6: sort 3", x.falls(3, true), true);
        for (int odd : ODD) {
            Check.due("6: odd sort", x.falls(odd, true), false);
        }
        x.runs(1);
        Check.due("6: there are runs", x.falls(0, true), false);
        Check.due("6: stays", x.against(0, 1), -1);
        x.clear();
        x.runs(1);
        Check.due("6: no runs", x.falls(0, true), true);
    }

    private static void row() {
        GreatSort x = new GreatSort();
        x.give(3, -5);
        x.give(0, 100000);
        Check.due("7: sort", x.row(0, 0), 3);
        Check.due("7: value", x.row(0, 1), -5);
        Check.due("7: value", x.row(1, 1), 100000);
        Check.due("7: what 2", x.row(0, 2), -1000000);
        Check.due("7: row 2", x.row(2, 0), -1000000);
        for (int odd : ODD) {
            Check.due("7: odd row", x.row(odd, 0), -1000000);
            Check.due("7: odd what", x.row(0, odd), -1000000);
        }
    }

    private static void against() {
        GreatSort x = Given.of(5, -5, 5);
        x.give(1, -100000);
        x.give(0, 100000);
        Check.due("8: behind", x.against(0, 1), 1);
        Check.due("8: ahead", x.against(1, 0), -1);
        Check.due("8: like keys", x.against(0, 2), -1);
        Check.due("8: like keys", x.against(2, 0), 1);
        Check.due("8: the same", x.against(2, 2), 0);
        Check.due("8: sorts first", x.against(4, 3), -1);
        Check.due("8: no row 5", x.against(0, 5), -2);
        Check.due("8: no row 5", x.against(5, 0), -2);
        Check.due("8: no such, twice", x.against(5, 5), -2);
        for (int odd : ODD) {
            Check.due("8: odd", x.against(odd, 0), -2);
            Check.due("8: odd", x.against(0, odd), -2);
        }
    }

    private static void rank() {
        GreatSort x = Given.of(5, -5, 5, 0);
        int[] due = {2, 0, 3, 1};
        for (int i = 0; i < 4; i++) {
            Check.due("9: rank " + i, x.rank(i), due[i]);
        }
        x.runs(2);
        x.give(0, -6);
        Check.due("9: of all, of those in no run, too", x.rank(1), 1);
        Check.due("9: in no run", x.rank(4), 0);
        Check.due("9: none such", x.rank(5), NONE);
        for (int odd : ODD) {
            Check.due("9: odd", x.rank(odd), NONE);
        }
    }

    private static void runs() {
        GreatSort x = Given.of(5, 3, 8, 1, 9, 2);
        Check.due("10: room 2", x.runs(2), 2);
        Shows.run(x, 0, 1, 0, 2, 4);
        Shows.run(x, 1, 3, 5);
        Check.due("10: room 0", x.runs(0), NONE);
        Check.due("10: room 41", x.runs(41), NONE);
        for (int odd : ODD) {
            Check.due("10: odd room", x.runs(odd), NONE);
        }
        Check.due("10: the old ones stay", x.count(1), 2);
        Shows.run(x, 1, 3, 5);
        Check.due("10: room 1", x.runs(1), 4);
        Shows.run(x, 0, 0);
        Shows.run(x, 1, 1, 2);
        Shows.run(x, 2, 3, 4);
        Shows.run(x, 3, 5);
        Check.due("10: room 40", x.runs(40), 1);
        Shows.run(x, 0, 3, 5, 1, 0, 2, 4);
        x.give(0, 0);
        Check.due("10: a later row is in no run", x.length(0), 6);
        Check.due("10: anew", x.runs(3), 2);
        Shows.run(x, 0, 1, 0, 2, 4);
        Shows.run(x, 1, 6, 3, 5);
        Check.due("10: none of no rows", new GreatSort().runs(5), 0);
    }

    private static void runsOfLikeKeysAndShortHeaps() {
        GreatSort x = Given.of(5, 5, 5);
        Check.due("10: like keys do not stand ahead", x.runs(1), 1);
        Shows.run(x, 0, 0, 1, 2);
        GreatSort y = Given.of(3, 2, 1);
        Check.due("10: room for all", y.runs(3), 1);
        Shows.run(y, 0, 2, 1, 0);
        Check.due("10: room for more", y.runs(4), 1);
        Check.due("10: room for one fewer", y.runs(2), 2);
        Shows.run(y, 0, 1, 0);
        Shows.run(y, 1, 2);
        // 41 falling rows: a heap of 40 keeps the first 40 in one run, the last one waits for the next.
        GreatSort z = new GreatSort();
        for (int i = 0; i < 41; i++) {
            z.give(0, -i);
        }
        Check.due("10: room 40", z.runs(40), 2);
        Check.due("10: first run", z.length(0), 40);
        Shows.run(z, 1, 40);
    }

    private static void runsGoWithWhatWasMadeOfThem() {
        GreatSort x = Given.ofRuns(2, 2, 2);
        x.plan(2);
        x.merge();
        x.cut(2, 1);
        x.tick();
        Check.due("10: refused", x.runs(0), NONE);
        Check.due("10: plan stays", x.merges(), 2);
        Check.due("10: merged stays", x.length(4), 6);
        Check.due("10: cut stays", x.count(3), 2);
        Check.due("10: anew", x.runs(1), 3);
        Check.due("10: plan goes", x.merges(), 0);
        Check.due("10: plan goes", x.takes(0, 0), NONE);
        Check.due("10: merged goes", x.length(3), NONE);
        Check.due("10: not told", x.merge(), NONE);
        Check.due("10: cut goes", x.count(3), 0);
        Check.due("10: samples go", x.count(2), 0);
        Check.due("10: cut goes", x.bound(), NONE);
        Check.due("10: work goes", x.host(0, 4), 0);
    }

    private static void lengthAndAt() {
        GreatSort x = Given.ofRuns(2, 1);
        Shows.run(x, 0, 0, 1);
        Shows.run(x, 1, 2);
        Check.due("11: run 2", x.length(2), NONE);
        Check.due("12: run 2", x.at(2, 0), NONE);
        for (int odd : ODD) {
            Check.due("11: odd", x.length(odd), NONE);
            Check.due("12: odd run", x.at(odd, 0), NONE);
            Check.due("12: odd place", x.at(0, odd), NONE);
        }
        x.plan(2);
        Check.due("11: merge not done", x.length(2), NONE);
        Check.due("12: merge not done", x.at(2, 0), NONE);
        x.merge();
        Shows.run(x, 2, 2, 0, 1);
        Check.due("11: none behind", x.length(3), NONE);
        Check.due("12: none behind", x.at(3, 0), NONE);
    }

    private static void plan() {
        GreatSort x = Given.ofRuns(5, 1, 3, 1);
        Check.due("13: k 1", x.plan(1), NONE);
        Check.due("13: k 9", x.plan(9), NONE);
        for (int odd : ODD) {
            Check.due("13: odd k", x.plan(odd), NONE);
        }
        Check.due("13: none told", x.merge(), NONE);
        Check.due("13: by 2", x.plan(2), 2 + 5 + 10);
        Shows.takes(x, 0, 1, 3);
        Shows.takes(x, 1, 4, 2);
        Shows.takes(x, 2, 0, 5);
        Check.due("13: refused", x.plan(9), NONE);
        Check.due("13: stays", x.merges(), 3);
        Check.due("13: by 3", x.plan(3), 2 + 10);
        Shows.takes(x, 0, 1, 3);
        Shows.takes(x, 1, 4, 2, 0);
        Check.due("13: by 4", x.plan(4), 10);
        Shows.takes(x, 0, 1, 3, 2, 0);
        Check.due("13: by 8", x.plan(8), 10);
        Check.due("13: by 8", x.merges(), 1);
        GreatSort y = Given.ofRuns(1, 1, 1, 1, 1, 1, 1, 1, 1, 1);
        Check.due("13: ten by 8", y.plan(8), 3 + 10);
        Shows.takes(y, 0, 0, 1, 2);
        Shows.takes(y, 1, 3, 4, 5, 6, 7, 8, 9, 10);
        Check.due("13: no rows", new GreatSort().plan(2), NONE);
        GreatSort z = Given.of(1, 2);
        Check.due("13: none made", z.plan(2), NONE);
        z.clear();
        z.runs(1);
        Check.due("13: of no rows", z.plan(2), NONE);
    }

    private static void planOfOneRun() {
        GreatSort x = Given.ofRuns(3);
        Check.due("13: one run moves nothing", x.plan(2), 0);
        Check.due("15: no merges", x.merges(), 0);
        Check.due("16: none", x.takes(0, 0), NONE);
        Check.due("17: of no merges", x.merge(), 0);
        Check.due("11: none made", x.length(1), NONE);
        Check.due("14: one run moves nothing", x.queue(8), 0);
    }

    private static void planOfMostRuns() {
        GreatSort x = new GreatSort();
        for (int i = 0; i < 400; i++) {
            x.give(0, -i);
        }
        Check.due("10: 400 runs", x.runs(1), 400);
        // 256 leaves at depth 8 would do for 256; 144 more pairs lie one deeper: 400 * 8 + 2 * 144.
        Check.due("13: 400 by 2", x.plan(2), 3488);
        Check.due("15: 399", x.merges(), 399);
        Check.due("17: looks", x.merge() > 0, true);
        Check.due("11: the last one", x.length(798), 400);
        Check.due("12: its first", x.at(798, 0), 399);
        Check.due("12: its last", x.at(798, 399), 0);
        Check.due("14: 400 by 2", x.queue(2) >= 3488, true);
        for (int k = 3; k <= 8; k++) {
            Check.due("13: moves fewer by " + k, x.plan(k) < 3488, true);
            Check.due("17: looks", x.merge() > 0, true);
            Check.due("11: the last one", x.length(399 + x.merges()), 400);
        }
    }

    private static void queue() {
        GreatSort x = Given.ofRuns(5, 1, 3, 1);
        Check.due("14: by 2", x.queue(2), 6 + 4 + 10);
        Check.due("14: by 3", x.queue(3), 6 + 10);
        Check.due("14: by 4", x.queue(4), 10);
        Check.due("14: by 8", x.queue(8), 10);
        Check.due("14: no plan told", x.merge(), NONE);
        x.plan(2);
        x.queue(3);
        Check.due("14: the plan stays", x.merges(), 3);
        Shows.takes(x, 1, 4, 2);
        Check.due("14: k 1", x.queue(1), NONE);
        Check.due("14: k 9", x.queue(9), NONE);
        for (int odd : ODD) {
            Check.due("14: odd k", x.queue(odd), NONE);
        }
        Check.due("14: none made", Given.of(1).queue(2), NONE);
        Check.due("14: five by 3", Given.ofRuns(1, 2, 3, 4, 5).queue(3), 6 + 15);
    }

    private static void mergesAndTakes() {
        GreatSort x = Given.ofRuns(1, 1, 1);
        Check.due("15: none told", x.merges(), 0);
        Check.due("16: none told", x.takes(0, 0), NONE);
        x.plan(2);
        Check.due("15: two", x.merges(), 2);
        Shows.takes(x, 0, 0, 1);
        Shows.takes(x, 1, 2, 3);
        Check.due("16: merge 2", x.takes(2, 0), NONE);
        for (int odd : ODD) {
            Check.due("16: odd merge", x.takes(odd, 0), NONE);
            Check.due("16: odd place", x.takes(0, odd), NONE);
        }
        x.plan(3);
        Check.due("15: one", x.merges(), 1);
        Shows.takes(x, 0, 0, 1, 2);
        Check.due("16: merge 1", x.takes(1, 0), NONE);
    }

    private static void merge() {
        GreatSort x = Given.ofRuns(5, 1, 3, 1);
        Check.due("17: none told", x.merge(), NONE);
        x.plan(2);
        Check.due("17: by 2", x.merge(), 1 + 4 + 5);
        Shows.run(x, 4, 9, 5);
        Shows.run(x, 5, 9, 6, 7, 8, 5);
        Shows.run(x, 6, 9, 6, 7, 8, 5, 0, 1, 2, 3, 4);
        Check.due("17: runs of II stay", x.count(1), 4);
        Check.due("17: again", x.merge(), 10);
        Check.due("11: none more", x.length(7), NONE);
        // 0 2 4 | 1 3: each of 0 1 2 3 is found with one look, 4 is left alone.
        GreatSort y = Given.of(0, 2, 4, 1, 3);
        y.runs(1);
        y.plan(2);
        Check.due("17: in turn", y.merge(), 4);
        Shows.run(y, 2, 0, 3, 1, 4, 2);
        // Like keys go by the rows' numbers, whichever run is told first.
        GreatSort z = Given.of(5, 7, 5);
        z.runs(1);
        z.plan(2);
        Shows.takes(z, 0, 1, 0);
        Check.due("17: like keys", z.merge(), 2);
        Shows.run(z, 2, 0, 2, 1);
    }

    private static void mergeAfterAnotherPlan() {
        GreatSort x = Given.ofRuns(5, 1, 3, 1);
        x.plan(2);
        x.merge();
        Check.due("13: of the runs of II", x.plan(3), 12);
        Check.due("11: these merges are not done", x.length(4), NONE);
        Check.due("17: by 3", x.merge(), 1 + 9);
        Shows.run(x, 4, 9, 5);
        Shows.run(x, 5, 9, 6, 7, 8, 5, 0, 1, 2, 3, 4);
        Check.due("11: none more", x.length(6), NONE);
        Check.due("13: refused", x.plan(1), NONE);
        Check.due("11: stays", x.length(5), 10);
        x.queue(2);
        Check.due("11: stays", x.length(5), 10);
        x.cut(2, 2);
        Check.due("11: stays", x.length(5), 10);
    }

    private static void cut() {
        GreatSort x = Given.of(0, 1, 2, 3, 4, 5, 6, 7, 8, 9);
        x.runs(1);
        Check.due("18: samples 2 5 8", x.cut(2, 3), 3);
        Check.due("20: up to sample 0", x.part(0, 0), 3);
        Check.due("20: its end", x.part(0, 3), 2);
        Check.due("20: the rest", x.part(1, 0), 7);
        Check.due("20: the last has none", x.part(1, 3), NONE);
        Check.due("18: samples 1 3 5 7 9", x.cut(3, 2), 5);
        Check.due("20: floor(5 / 3) - 1 = 0", x.part(0, 3), 1);
        Check.due("20: floor(10 / 3) - 1 = 2", x.part(1, 3), 5);
        Check.due("20: rows", x.part(0, 0) * 100 + x.part(1, 0) * 10 + x.part(2, 0), 244);
        Check.due("18: one part", x.cut(1, 20), 0);
        Check.due("20: all", x.part(0, 0), 10);
        // RUNS 4 5 6 | 0 1 2 (rows 3 4 5): by each second row the samples are rows 4 and 1.
        GreatSort y = Given.of(4, 5, 6, 0, 1, 2);
        y.runs(1);
        Check.due("18: of each run", y.cut(2, 2), 2);
        Check.due("20: the first in the order", y.part(0, 3), 4);
        Check.due("20: rows", y.part(0, 0), 2);
        Check.due("20: rows", y.part(1, 0), 4);
        y.plan(2);
        y.merge();
        Check.due("18: merging does not touch it", y.part(0, 0), 2);
        Check.due("18: of runs of II alone", y.cut(2, 2), 2);
        y.give(0, -9);
        y.cut(2, 2);
        Check.due("18: a later row is in no part", y.part(0, 0) + y.part(1, 0), 6);
    }

    private static void cutWithEmptyParts() {
        GreatSort x = Given.of(0, 1, 2, 3);
        x.runs(1);
        Check.due("18: one sample", x.cut(4, 3), 1);
        for (int j = 0; j < 3; j++) {
            Check.due("20: below 0: empty", x.part(j, 0), 0);
            Check.due("20: below 0: no end", x.part(j, 3), NONE);
        }
        Check.due("20: the rest", x.part(3, 0), 4);
        Check.due("18: two samples", x.cut(5, 2), 2);
        int[] sizes = {0, 0, 2, 0, 2};
        int[] ends = {NONE, NONE, 1, 1, NONE};
        for (int j = 0; j < 5; j++) {
            Check.due("20: size " + j, x.part(j, 0), sizes[j]);
            Check.due("20: end " + j, x.part(j, 3), ends[j]);
        }
    }

    private static void cutRefused() {
        GreatSort x = Given.of(1, 2, 3);
        Check.due("18: no runs", x.cut(1, 1), NONE);
        x.runs(1);
        x.cut(2, 1);
        x.tick();
        Check.due("18: n 0", x.cut(0, 1), NONE);
        Check.due("18: n 9", x.cut(9, 1), NONE);
        Check.due("18: e 0", x.cut(1, 0), NONE);
        Check.due("18: e 21", x.cut(1, 21), NONE);
        for (int odd : ODD) {
            Check.due("18: odd n", x.cut(odd, 1), NONE);
            Check.due("18: odd e", x.cut(1, odd), NONE);
        }
        Check.due("18: refused: it stays", x.count(3), 2);
        Shows.work(x, 1, 3, 0, 2, 1);
        Check.due("18: anew", x.cut(8, 20), 0);
        Shows.work(x, 0, 0, 0, 0, 0);
        Check.due("18: work goes", x.host(0, 4), 0);
        Check.due("18: work goes", x.part(0, 1), 0);
        x.cut(1, 1);
        x.tick();
        Shows.work(x, 1, 3, 0, 1, 1);
        x.cut(1, 1);
        x.tick();
        Shows.work(x, 1, 3, 0, 1, 1);
    }

    private static void bound() {
        GreatSort x = Given.ofRuns(3, 3);
        Check.due("19: none", x.bound(), NONE);
        x.cut(2, 1);
        Check.due("19: 1 * 3 + 0", x.bound(), 3);
        x.cut(4, 1);
        Check.due("19: 1 * 2 + 0", x.bound(), 2);
        x.cut(4, 3);
        Check.due("19: 3 * 1 + 2 * 2", x.bound(), 7);
        x.cut(4, 20);
        Check.due("19: 20 * 0 + 19 * 2", x.bound(), 38);
        x.give(0, 0);
        x.runs(1);
        Check.due("19: the cut went", x.bound(), NONE);
    }

    private static void part() {
        GreatSort x = Given.ofParts(3, 12);
        Shows.liesOn(x, 0, 1, 2);
        x.tick();
        Check.due("20: merged", x.part(1, 1), 10);
        Check.due("20: rows stay", x.part(1, 0), 12);
        Check.due("20: what 4", x.part(0, 4), -2);
        Check.due("20: part 3", x.part(3, 0), -2);
        for (int odd : ODD) {
            Check.due("20: odd part", x.part(odd, 0), -2);
            Check.due("20: odd what", x.part(0, odd), -2);
        }
    }

    private static void pace() {
        GreatSort x = Given.ofParts(1, 100);
        Check.due("21: 50", x.pace(0, 50), true);
        Check.due("21: tick", x.tick(), 50);
        Check.due("21: 0", x.pace(0, 0), true);
        Check.due("21: tick", x.tick(), 0);
        Check.due("21: 51", x.pace(0, 51), false);
        Check.due("21: -1", x.pace(0, -1), false);
        Check.due("21: host 8", x.pace(8, 1), false);
        Check.due("21: host 7", x.pace(7, 1), true);
        for (int odd : ODD) {
            Check.due("21: odd host", x.pace(odd, 1), false);
            Check.due("21: odd pace", x.pace(0, odd), false);
        }
        Check.due("21: stays", x.host(0, 0), 0);
        x.fall(3);
        Check.due("21: of a host that is down", x.pace(3, 4), true);
        x.rise(3);
        Check.due("21: stays", x.host(3, 0), 4);
    }

    private static void fall() {
        GreatSort x = new GreatSort();
        Check.due("22: without a cut", x.fall(2), 0);
        Check.due("22: is down", x.fall(2), NONE);
        Check.due("22: host 8", x.fall(8), NONE);
        for (int odd : ODD) {
            Check.due("22: odd", x.fall(odd), NONE);
        }
        Check.due("22: host 7", x.fall(7), 0);
        GreatSort y = Given.ofParts(2, 10);
        y.tick();
        Shows.work(y, 1, 20, 0, 2, 1);
        Check.due("22: a done part goes, too", y.fall(1), 1);
        // Host 0 has merged all of its part: it has as few rows left as hosts 2 to 7.
        Shows.liesOn(y, 0, 0);
        Check.due("22: none of its rows merged", y.part(1, 1), 0);
        Check.due("22: others keep theirs", y.part(0, 1), 10);
        Shows.work(y, 1, 20, 0, 1, 0);
        Check.due("22: merged by the fallen one", y.host(1, 4), 10);
        Check.due("22: none lies on it", y.host(1, 2), 0);
    }

    private static void fallTakesTheLeastLaden() {
        GreatSort x = Given.ofParts(4, 9);
        for (int host = 4; host < 8; host++) {
            Check.due("22: no part", x.fall(host), 0);
        }
        x.pace(0, 1);
        x.pace(1, 3);
        x.pace(2, 2);
        x.pace(3, 0);
        x.tick();
        // Left: 8, 6, 7, 9.
        Check.due("22: one", x.fall(3), 1);
        Shows.liesOn(x, 0, 1, 2, 1);
        // Left: 8, 15, 7; host 1's parts go, in order, to host 2 (16) and host 0 (17).
        Check.due("22: two", x.fall(1), 2);
        Shows.liesOn(x, 0, 2, 2, 0);
        Check.due("24: left", x.host(0, 3), 17);
        Check.due("24: left", x.host(2, 3), 16);
        Check.due("22: two", x.fall(2), 2);
        Shows.liesOn(x, 0, 0, 0, 0);
        Check.due("24: left", x.host(0, 3), 35);
    }

    private static void fallOfAll() {
        GreatSort x = Given.ofParts(2, 5);
        for (int host = 7; host > 0; host--) {
            x.fall(host);
        }
        Shows.liesOn(x, 0, 0);
        x.tick();
        Check.due("22: nowhere", x.fall(0), 2);
        Shows.liesOn(x, NONE, NONE);
        Check.due("20: none merged", x.part(0, 1), 0);
        Check.due("25: none works", x.tick(), 0);
        Shows.work(x, 2, 10, 0, 0, 0);
        Check.due("23: all", x.rise(5), 2);
        Shows.liesOn(x, 5, 5);
        Check.due("23: none more", x.rise(0), 0);
        Shows.liesOn(x, 5, 5);
    }

    private static void cutOnHostsThatAreDown() {
        GreatSort x = new GreatSort();
        for (int i = 0; i < 12; i++) {
            x.give(0, i);
        }
        x.runs(1);
        x.fall(0);
        x.fall(2);
        x.cut(3, 1);
        // Part 1 lies on host 1; part 0 goes to host 3, the first one with no rows, part 2 to host 4.
        Shows.liesOn(x, 3, 1, 4);
        for (int host = 0; host < 8; host++) {
            x.fall(host);
        }
        Check.due("18: with no host", x.cut(2, 1), 12);
        Shows.liesOn(x, NONE, NONE);
        Check.due("23: all", x.rise(7), 2);
        x.cut(3, 1);
        Shows.liesOn(x, 7, 7, 7);
    }

    private static void rise() {
        GreatSort x = Given.ofParts(2, 5);
        Check.due("23: is up", x.rise(0), NONE);
        Check.due("23: host 8", x.rise(8), NONE);
        for (int odd : ODD) {
            Check.due("23: odd", x.rise(odd), NONE);
        }
        x.fall(1);
        Check.due("23: nothing lay nowhere", x.rise(1), 0);
        Check.due("24: up", x.host(1, 1), 1);
        Shows.liesOn(x, 0, 2);
        Check.due("23: is up", x.rise(1), NONE);
        GreatSort y = new GreatSort();
        y.fall(7);
        Check.due("23: without a cut", y.rise(7), 0);
    }

    private static void host() {
        GreatSort x = Given.ofParts(2, 15);
        x.tick();
        int[] due = {10, 1, 1, 5, 10};
        for (int what = 0; what < 5; what++) {
            Check.due("24: host(0, " + what + ")", x.host(0, what), due[what]);
        }
        x.fall(0);
        Check.due("24: down", x.host(0, 1), 0);
        Check.due("24: no parts", x.host(0, 2), 0);
        Check.due("24: no rows", x.host(0, 3), 0);
        Check.due("24: merged since the cut", x.host(0, 4), 10);
        Check.due("24: moved", x.host(2, 3), 15);
        Check.due("24: what 5", x.host(0, 5), NONE);
        Check.due("24: host 8", x.host(8, 0), NONE);
        for (int odd : ODD) {
            Check.due("24: odd host", x.host(odd, 0), NONE);
            Check.due("24: odd what", x.host(0, odd), NONE);
        }
        x.runs(1);
        Check.due("24: without a cut", x.host(0, 4) + x.host(2, 2) + x.host(2, 3), 0);
    }

    private static void tick() {
        GreatSort x = Given.ofParts(2, 15);
        x.pace(1, 20);
        Check.due("25: 10 and 15", x.tick(), 25);
        Check.due("25: 5", x.tick(), 5);
        Check.due("25: nothing left", x.tick(), 0);
        Shows.work(x, 3, 30, 0, 2, 1);
        x.runs(1);
        Check.due("25: without a cut", x.tick(), NONE);
    }

    private static void tickGoesOnWithTheNextPart() {
        GreatSort x = Given.ofParts(3, 6);
        for (int host = 1; host < 8; host++) {
            x.fall(host);
        }
        Shows.liesOn(x, 0, 0, 0);
        Check.due("25: 6 and 4", x.tick(), 10);
        Check.due("20: first", x.part(0, 1), 6);
        Check.due("20: second", x.part(1, 1), 4);
        Check.due("20: third", x.part(2, 1), 0);
        Shows.work(x, 1, 10, 0, 1, 0);
        x.pace(0, 1);
        Check.due("25: 1", x.tick(), 1);
        Check.due("20: second", x.part(1, 1), 5);
        x.pace(0, 50);
        Check.due("25: the rest", x.tick(), 7);
        Shows.work(x, 3, 18, 0, 3, 1);
    }

    private static void tickMeetsEmptyParts() {
        GreatSort x = Given.of(0, 1, 2, 3);
        x.runs(1);
        x.cut(5, 2);
        // Sizes 0 0 2 0 2: the empty ones are not done before a tick.
        Shows.work(x, 0, 0, 0, 0, 0);
        for (int host = 0; host < 8; host++) {
            x.pace(host, 0);
        }
        Check.due("25: with a pace of 0", x.tick(), 0);
        Shows.work(x, 1, 0, 0, 3, 0);
        for (int host = 7; host > 0; host--) {
            x.fall(host);
        }
        Check.due("25: only up to one that has rows", x.tick(), 0);
        Shows.work(x, 2, 0, 0, 2, 0);
        x.pace(0, 2);
        // Part 2 takes all of the pace; the empty part 3 behind it is met, part 4 gets nothing.
        Check.due("25: 2", x.tick(), 2);
        Shows.work(x, 3, 2, 0, 4, 0);
        Check.due("25: 2", x.tick(), 2);
        Shows.work(x, 4, 4, 0, 5, 1);
    }

    private static void work() {
        GreatSort x = Given.of(1);
        Check.due("26: without a cut", x.work(0), NONE);
        x.runs(1);
        Check.due("26: without a cut", x.work(4), NONE);
        x.cut(1, 1);
        Shows.work(x, 0, 0, 0, 0, 0);
        Check.due("26: 5", x.work(5), NONE);
        for (int odd : ODD) {
            Check.due("26: odd", x.work(odd), NONE);
        }
        x.tick();
        Shows.work(x, 1, 1, 0, 1, 1);
    }

    private static void workDoneAgain() {
        GreatSort x = Given.ofParts(1, 30);
        x.tick();
        x.tick();
        x.fall(0);
        Shows.work(x, 2, 20, 0, 0, 0);
        Shows.liesOn(x, 1);
        x.pace(1, 8);
        x.tick();
        Shows.work(x, 3, 28, 8, 0, 0);
        x.fall(1);
        // Rows 0 to 19 have been merged before, rows 0 to 7 even twice; row 20 on is new.
        x.pace(2, 25);
        x.tick();
        Shows.work(x, 4, 53, 28, 0, 0);
        x.tick();
        Shows.work(x, 5, 58, 28, 1, 1);
        x.fall(2);
        x.pace(3, 50);
        x.tick();
        Shows.work(x, 6, 88, 58, 1, 1);
    }

    private static void end() {
        GreatSort x = Given.of(4, 1, 3, 1, 0);
        x.runs(2);
        Check.due("27: without a cut", x.end(0), NONE);
        x.cut(2, 1);
        Check.due("27: not yet", x.end(0), NONE);
        x.pace(1, 1);
        x.tick();
        Check.due("27: not yet", x.end(0), NONE);
        x.tick();
        x.tick();
        int[] due = {4, 1, 3, 2, 0};
        for (int i = 0; i < 5; i++) {
            Check.due("27: end(" + i + ")", x.end(i), due[i]);
        }
        Check.due("27: end(5)", x.end(5), NONE);
        for (int odd : ODD) {
            Check.due("27: odd", x.end(odd), NONE);
        }
        x.give(0, -9);
        Check.due("27: a later row is not in it", x.end(0), 4);
        Check.due("27: a later row is not in it", x.end(5), NONE);
        x.fall(0);
        Check.due("27: gone", x.end(0), NONE);
        // The PART of two ROWS lies on HOST 1 now, which has a PACE of 1.
        x.tick();
        Check.due("27: not yet again", x.end(0), NONE);
        x.tick();
        Check.due("27: there again", x.end(4), 0);
    }

    private static void count() {
        GreatSort x = Given.ofRuns(2, 3);
        x.give(0, 0);
        x.cut(3, 2);
        int[] due = {6, 2, 2, 3};
        for (int what = 0; what < 4; what++) {
            Check.due("28: count(" + what + ")", x.count(what), due[what]);
        }
        x.plan(2);
        x.merge();
        Check.due("28: of II", x.count(1), 2);
        Check.due("28: 4", x.count(4), NONE);
        for (int odd : ODD) {
            Check.due("28: odd", x.count(odd), NONE);
        }
    }
}
