/** Answers of several calls, held against those that are due. */
final class Shows {
    private static final int NONE = -1;

    private Shows() {
    }

    static void run(GreatSort x, int k, int... rows) {
        Check.due("length(" + k + ")", x.length(k), rows.length);
        for (int i = 0; i < rows.length; i++) {
            Check.due("at(" + k + ", " + i + ")", x.at(k, i), rows[i]);
        }
        Check.due("at behind run " + k, x.at(k, rows.length), NONE);
        Check.due("at ahead of run " + k, x.at(k, -1), NONE);
    }

    static void takes(GreatSort x, int merge, int... runs) {
        for (int j = 0; j < runs.length; j++) {
            Check.due("takes(" + merge + ", " + j + ")", x.takes(merge, j), runs[j]);
        }
        Check.due("takes behind merge " + merge, x.takes(merge, runs.length), NONE);
        Check.due("takes ahead of merge " + merge, x.takes(merge, -1), NONE);
    }

    static void sizes(GreatSort x, int... sizes) {
        for (int j = 0; j < sizes.length; j++) {
            Check.due("part(" + j + ", 0)", x.part(j, 0), sizes[j]);
        }
        Check.due("part behind the last", x.part(sizes.length, 0), -2);
    }

    static void merged(GreatSort x, int... merged) {
        for (int j = 0; j < merged.length; j++) {
            Check.due("part(" + j + ", 1)", x.part(j, 1), merged[j]);
        }
    }

    static void liesOn(GreatSort x, int... hosts) {
        for (int j = 0; j < hosts.length; j++) {
            Check.due("part(" + j + ", 2)", x.part(j, 2), hosts[j]);
        }
    }

    static void ends(GreatSort x, int... ends) {
        for (int j = 0; j < ends.length; j++) {
            Check.due("part(" + j + ", 3)", x.part(j, 3), ends[j]);
        }
    }

    static void work(GreatSort x, int ticks, int all, int again, int done, int end) {
        Check.due("work(0)", x.work(0), ticks);
        Check.due("work(1)", x.work(1), all);
        Check.due("work(2)", x.work(2), again);
        Check.due("work(3)", x.work(3), done);
        Check.due("work(4)", x.work(4), end);
    }

    /** No PLAN, as far as that can be seen without a call that changes something. */
    static void noPlan(GreatSort x) {
        Check.due("merges()", x.merges(), 0);
        Check.due("takes(0, 0)", x.takes(0, 0), NONE);
    }

    static void noRuns(GreatSort x) {
        Check.due("count(1)", x.count(1), 0);
        for (int k = 0; k < 8; k++) {
            Check.due("length(" + k + ")", x.length(k), NONE);
            Check.due("at(" + k + ", 0)", x.at(k, 0), NONE);
        }
        noPlan(x);
        Check.due("merge()", x.merge(), NONE);
        Check.due("plan(2)", x.plan(2), NONE);
        Check.due("queue(2)", x.queue(2), NONE);
        Check.due("cut(1, 1)", x.cut(1, 1), NONE);
        noCut(x);
    }

    static void noCut(GreatSort x) {
        Check.due("bound()", x.bound(), NONE);
        Check.due("part(0, 0)", x.part(0, 0), -2);
        Check.due("count(2)", x.count(2), 0);
        Check.due("count(3)", x.count(3), 0);
        Check.due("end(0)", x.end(0), NONE);
        for (int what = 0; what < 5; what++) {
            Check.due("work(" + what + ")", x.work(what), NONE);
        }
        for (int host = 0; host < 8; host++) {
            for (int what = 2; what < 5; what++) {
                Check.due("host(" + host + ", " + what + ")", x.host(host, what), 0);
            }
        }
        Check.due("tick()", x.tick(), NONE);
    }
}
