import java.util.ArrayList;
import java.util.List;
import java.util.function.Supplier;
import java.util.function.ToIntFunction;

/** Calls that are refused: what they answer, and that they leave all as it was. */
final class Refused {
    private static final int MOST_CALLS = 512;

    private final GreatSort x;
    private final List<String> told = new ArrayList<>();

    private Refused(GreatSort x) {
        this.x = x;
    }

    /** The least and the greatest int, and those just below and above what can be. */
    static int[] outside(int least, int most) {
        return new int[] {Integer.MIN_VALUE, least - 1, most + 1, Integer.MAX_VALUE};
    }

    static void atEachStage(String call, ToIntFunction<GreatSort> calling, int want) {
        for (Supplier<GreatSort> stage : Given.STAGES) {
            from(stage, call, calling, want);
        }
    }

    /** The object goes on just as one that was never called so. */
    static void from(Supplier<GreatSort> stage, String call, ToIntFunction<GreatSort> calling, int want) {
        GreatSort called = stage.get();
        Check.due(call, calling.applyAsInt(called), want);
        List<String> got = allOf(called);
        List<String> due = allOf(stage.get());
        int same = 0;
        while (same < got.size() && same < due.size() && got.get(same).equals(due.get(same))) {
            same++;
        }
        String first = same < got.size() ? got.get(same) : "the end";
        Check.due(call + ", then " + first + ", call", same, due.size());
    }

    private static List<String> allOf(GreatSort x) {
        Refused r = new Refused(x);
        r.askAll();
        r.goOn();
        r.askAll();
        // The calls that made the object are some thirty more.
        Check.due("few enough calls", r.told.size() < MOST_CALLS - 50, true);
        return r.told;
    }

    private int tell(String call, int answer) {
        told.add(call + " answered " + answer);
        return answer;
    }

    private void askAll() {
        int rows = tell("count(0)", x.count(0));
        tell("count(1)", x.count(1));
        tell("count(2)", x.count(2));
        int parts = tell("count(3)", x.count(3));
        for (int i = 0; i < rows; i++) {
            tell("row(" + i + ", 0)", x.row(i, 0));
            tell("row(" + i + ", 1)", x.row(i, 1));
            tell("rank(" + i + ")", x.rank(i));
            tell("end(" + i + ")", x.end(i));
        }
        askRunsAndPlan();
        tell("bound()", x.bound());
        for (int j = 0; j < parts; j++) {
            for (int what = 0; what < 4; what++) {
                tell("part(" + j + ", " + what + ")", x.part(j, what));
            }
        }
        for (int what = 0; what < 5; what++) {
            tell("work(" + what + ")", x.work(what));
            for (int host = 0; host < 8; host++) {
                tell("host(" + host + ", " + what + ")", x.host(host, what));
            }
        }
    }

    private void askRunsAndPlan() {
        int k = 0;
        int length = tell("length(0)", x.length(0));
        while (length >= 0) {
            for (int i = 0; i < length; i++) {
                tell("at(" + k + ", " + i + ")", x.at(k, i));
            }
            k++;
            length = tell("length(" + k + ")", x.length(k));
        }
        int merges = tell("merges()", x.merges());
        for (int i = 0; i < merges; i++) {
            tell("takes(" + i + ", 0)", x.takes(i, 0));
            tell("takes(" + i + ", 1)", x.takes(i, 1));
        }
    }

    /** Calls whose answers tell what can't be asked: whether a PLAN is told, which ROWS were merged before. */
    private void goOn() {
        tell("merge()", x.merge());
        tell("tick()", x.tick());
        tell("fall(1)", x.fall(1));
        tell("tick()", x.tick());
        tell("work(2)", x.work(2));
        tell("rise(5)", x.rise(5));
        tell("queue(3)", x.queue(3));
        tell("give(3, 1)", x.give(3, 1));
        tell("falls(0, true)", Check.bit(x.falls(0, true)));
        tell("runs(3)", x.runs(3));
        tell("plan(3)", x.plan(3));
        tell("cut(3, 2)", x.cut(3, 2));
    }
}
