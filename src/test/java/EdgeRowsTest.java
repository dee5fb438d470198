import java.math.BigInteger;
import java.util.function.Supplier;

/** Terms I and promises 1 to 9: a test for each sentence that names a boundary case. */
public final class EdgeRowsTest {
    private static final int NONE = -1;
    private static final int NO_ROW = -1000000;
    private static final int LEAST = -100000;
    private static final int GREATEST = 100000;

    private EdgeRowsTest() {
    }

    public static void main(String[] args) {
        rowsAreNumberedFrom0On();
        sortsAre0To3();
        valuesReachTo100000();
        sortsStandAsTold();
        valuesRise();
        valuesFall();
        likeKeysStandByNumbers();
        theOrderIsToldWithoutRuns();
        aNewObjectIsEmpty();
        objectsShareNothing();
        giveTellsTheNumber();
        giveRefusesAKeyThatCantBe();
        giveRefusesAt400();
        sowTakes1To100();
        sowWraps();
        sowShiftsWithoutASign();
        sowBeginsWithTheSeed();
        sowTakesSlopes();
        sowTakesSpreads();
        sowRefusesDoingNothing();
        sowRefusesMoreThan400();
        clearTellsHowManyThereWere();
        clearTakesAllThatIsMadeOfRows();
        clearKeepsTheOrderAndHosts();
        orderWantsEachOnce();
        orderRefusedWhileThereAreRuns();
        fallsWantsASort();
        fallsRefusedWhileThereAreRuns();
        rowThatIsNotThere();
        rowOfOtherThings();
        againstTheSame();
        againstOneThatIsNotThere();
        rankCountsAllRows();
        rankOfOneThatIsNotThere();
        Check.end();
    }

    private static void rowsAreNumberedFrom0On() {
        Check.sentence("I: ROWS, numbered from 0 on as they came (400 at most)");
        GreatSort x = new GreatSort();
        for (int i = 0; i < 400; i++) {
            Check.due("give", x.give(0, 7 * i), i);
        }
        Check.due("row 0", x.row(0, 1), 0);
        Check.due("row 399", x.row(399, 1), 2793);
        Check.due("row 400", x.row(400, 1), NO_ROW);
        Check.due("give", x.give(0, 0), NONE);
        Check.due("row 400", x.row(400, 1), NO_ROW);
        Check.due("row 0", x.row(0, 1), 0);
        Check.due("row 399", x.row(399, 1), 2793);
        Check.due("count(0)", x.count(0), 400);
    }

    private static void sortsAre0To3() {
        Check.sentence("I: a SORT (0 .. 3)");
        GreatSort x = new GreatSort();
        for (int sort = 0; sort <= 3; sort++) {
            Check.due("give sort " + sort, x.give(sort, 1), 2 * sort);
            Check.due("sow sort " + sort, x.sow(sort, 1, 1, 0, 1), 2 * sort + 2);
            Check.due("given sort", x.row(2 * sort, 0), sort);
            Check.due("sown sort", x.row(2 * sort + 1, 0), sort);
        }
        for (int sort : Refused.outside(0, 3)) {
            Refused.atEachStage("give sort " + sort, y -> y.give(sort, 1), NONE);
            Refused.atEachStage("sow sort " + sort, y -> y.sow(sort, 1, 1, 0, 1), NONE);
        }
    }

    private static void valuesReachTo100000() {
        Check.sentence("I: a value (-100000 .. 100000)");
        GreatSort x = new GreatSort();
        for (int sort = 0; sort <= 3; sort++) {
            Check.due("give the least", x.give(sort, LEAST), 2 * sort);
            Check.due("give the greatest", x.give(sort, GREATEST), 2 * sort + 1);
            Check.due("the least", x.row(2 * sort, 1), LEAST);
            Check.due("the greatest", x.row(2 * sort + 1, 1), GREATEST);
        }
        for (int value : Refused.outside(LEAST, GREATEST)) {
            Refused.atEachStage("give value " + value, y -> y.give(0, value), NONE);
            Refused.atEachStage("give value " + value, y -> y.give(3, value), NONE);
        }
    }

    private static void sortsStandAsTold() {
        Check.sentence("I: THE ORDER: of SORTS as told (0 1 2 3 at first)");
        GreatSort x = new GreatSort();
        for (int sort = 3; sort >= 0; sort--) {
            x.give(sort, LEAST);
            x.give(sort, GREATEST);
        }
        for (int i = 0; i < 8; i++) {
            // ROWS 0 and 1 are of SORT 3, ROWS 6 and 7 of SORT 0.
            Check.due("rank(" + i + ") at first", x.rank(i), 6 - i / 2 * 2 + i % 2);
        }
        x.order(2, 0, 3, 1);
        int[] due = {4, 5, 0, 1, 6, 7, 2, 3};
        for (int i = 0; i < 8; i++) {
            Check.due("rank(" + i + ") as told", x.rank(i), due[i]);
        }
    }

    private static GreatSort ofEdges() {
        return Given.of(GREATEST, GREATEST - 1, 1, 0, -1, LEAST + 1, LEAST);
    }

    private static void valuesRise() {
        Check.sentence("I: of one SORT by values, rising");
        GreatSort x = ofEdges();
        for (int i = 0; i < 7; i++) {
            Check.due("rank(" + i + ")", x.rank(i), 6 - i);
        }
        Check.due("greatest against least", x.against(0, 6), 1);
        Check.due("least against greatest", x.against(6, 0), -1);
    }

    private static void valuesFall() {
        Check.sentence("I: or (if it is told so) falling");
        GreatSort x = ofEdges();
        x.give(0, GREATEST);
        Check.due("falls", x.falls(0, true), true);
        int[] due = {0, 2, 3, 4, 5, 6, 7, 1};
        for (int i = 0; i < 8; i++) {
            Check.due("rank(" + i + ")", x.rank(i), due[i]);
        }
        x.give(1, GREATEST);
        x.give(1, LEAST);
        Check.due("another sort rises", x.against(9, 8), -1);
    }

    private static void likeKeysStandByNumbers() {
        Check.sentence("I: of like KEYS by the ROWS' numbers");
        for (int falling = 0; falling <= 1; falling++) {
            GreatSort x = new GreatSort();
            x.falls(2, falling == 1);
            for (int i = 0; i < 4; i++) {
                x.sow(2, 100, i, 0, 1);
            }
            Check.due("first against last", x.against(0, 399), -1);
            Check.due("last against first", x.against(399, 0), 1);
            Check.due("neighbours", x.against(398, 399), -1);
            Check.due("rank of the last", x.rank(399), 399);
            Check.due("rank of the first", x.rank(0), 0);
        }
        GreatSort y = Given.of(1);
        for (int i = 0; i < 4; i++) {
            y.sow(0, 99, i, 0, 1);
        }
        Check.due("a lesser value is ahead with the last number, too", y.against(396, 0), -1);
        Check.due("rank", y.rank(0), 396);
    }

    private static void theOrderIsToldWithoutRuns() {
        Check.sentence("I: THE ORDER can be told as long as there are no RUNS");
        GreatSort x = new GreatSort();
        isTold(x, true);
        x.runs(1);
        isTold(x, true);
        x.give(0, 1);
        isTold(x, true);
        x.runs(0);
        isTold(x, true);
        x.runs(1);
        isTold(x, false);
        x.plan(2);
        x.merge();
        x.cut(1, 1);
        x.tick();
        isTold(x, false);
        x.runs(41);
        isTold(x, false);
        x.give(0, 2);
        isTold(x, false);
        x.clear();
        isTold(x, true);
        x.runs(40);
        isTold(x, true);
    }

    private static void isTold(GreatSort x, boolean due) {
        Check.due("order", x.order(3, 1, 0, 2), due);
        Check.due("falls", x.falls(3, false), due);
    }

    private static void aNewObjectIsEmpty() {
        Check.sentence("1: No ROWS, RUNS, PLAN, CUT");
        GreatSort x = new GreatSort();
        Check.due("no rows", x.count(0), 0);
        Check.due("no row", x.row(0, 0), NO_ROW);
        Check.due("no row", x.row(0, 1), NO_ROW);
        Check.due("none against none", x.against(0, 0), -2);
        Check.due("no rank", x.rank(0), NONE);
        Shows.noRuns(x);
    }

    private static void objectsShareNothing() {
        Check.sentence("1: A new object, beside another one");
        Given.atEnd();
        Refused.from(GreatSort::new, "another one was used", x -> Given.atEnd().count(0), 8);
        Refused.from(Given::atEnd, "another one is made", x -> new GreatSort().count(0), 0);
        Refused.from(Given::atWork, "another one is used", x -> useOther(), 1);
    }

    private static int useOther() {
        GreatSort y = new GreatSort();
        y.order(3, 2, 1, 0);
        y.falls(0, true);
        y.give(0, 50);
        y.runs(7);
        y.plan(5);
        y.merge();
        for (int host = 0; host < 8; host++) {
            y.pace(host, 44);
            y.fall(host);
        }
        y.rise(6);
        y.cut(3, 2);
        y.tick();
        return y.count(1);
    }

    private static void giveTellsTheNumber() {
        Check.sentence("2: A ROW more: its number");
        GreatSort x = new GreatSort();
        Check.due("first", x.give(3, LEAST), 0);
        Check.due("refused", x.give(3, LEAST - 1), NONE);
        Check.due("the next number is still free", x.give(0, GREATEST), 1);
        x.sow(0, 100, 1, 1, 1);
        Check.due("behind those that were sown", x.give(1, 1), 102);
        x.runs(1);
        Check.due("with runs", x.give(1, 1), 103);
        x.clear();
        Check.due("from 0 on again", x.give(1, 1), 0);
    }

    private static void giveRefusesAKeyThatCantBe() {
        Check.sentence("2: NONE if its KEY can't be");
        for (int sort : Refused.outside(0, 3)) {
            for (int value : Refused.outside(LEAST, GREATEST)) {
                Refused.from(Given::rows, "give(" + sort + ", " + value + ")", x -> x.give(sort, value), NONE);
            }
        }
    }

    private static void giveRefusesAt400() {
        Check.sentence("2: NONE if there are 400");
        GreatSort x = Given.rising(399);
        Check.due("the last one", x.give(3, 5), 399);
        Check.due("one more", x.give(3, 5), NONE);
        Check.due("one that can't be", x.give(4, 5), NONE);
        Check.due("still 400", x.count(0), 400);
        Check.due("clear", x.clear(), 400);
        Check.due("there is room again", x.give(3, 5), 0);
    }

    private static void sowTakes1To100() {
        Check.sentence("3: n (1 .. 100) ROWS more");
        GreatSort x = new GreatSort();
        Check.due("1", x.sow(0, 1, 9, 0, 100), 1);
        Check.due("100", x.sow(0, 100, 9, 0, 100), 101);
        Check.due("the last one is there", x.row(100, 0), 0);
        Check.due("none behind it", x.row(101, 0), NO_ROW);
        for (int n : Refused.outside(1, 100)) {
            Refused.atEachStage("sow n " + n, y -> y.sow(0, n, 9, 0, 100), NONE);
        }
    }

    /** The values of ROWS that were sown into an empty object, by numbers that do not wrap of themselves. */
    private static void hasSown(GreatSort x, int n, int seed, int slope, int spread) {
        BigInteger g = BigInteger.valueOf(seed);
        BigInteger ints = BigInteger.ONE.shiftLeft(32);
        for (int i = 0; i < n; i++) {
            g = g.multiply(BigInteger.valueOf(1103515245)).add(BigInteger.valueOf(12345)).mod(ints);
            long value = (long) i * slope + (g.longValueExact() / 256) % spread;
            Check.due("seed " + seed + ", value of row " + i, x.row(i, 1), value);
        }
    }

    private static void sowWraps() {
        Check.sentence("3: g becomes 1103515245 g + 12345 (an int, it wraps)");
        int[] seeds = {0, 1, -1, 2, Integer.MAX_VALUE, Integer.MIN_VALUE, Integer.MIN_VALUE + 1, 1 << 30, 123456789};
        for (int seed : seeds) {
            GreatSort x = new GreatSort();
            Check.due("sow", x.sow(0, 100, seed, 0, 10000), 100);
            hasSown(x, 100, seed, 0, 10000);
        }
    }

    private static void sowShiftsWithoutASign() {
        Check.sentence("3: (g >>> 8) % spread");
        // With the seed 1 g is 1103527590; with -1 it is -1103502900, as a number without a sign 3191464396.
        GreatSort x = new GreatSort();
        x.sow(0, 1, 1, 0, 10000);
        x.sow(0, 1, -1, 0, 10000);
        Check.due("g above 0", x.row(0, 1), 1103527590 / 256 % 10000);
        Check.due("g below 0", x.row(1, 1), 3191464396L / 256 % 10000);
        // The greatest remainder that can be: 9999 of 10000, and 0 of 1.
        int seed = 0;
        int g = 1103515245 * seed + 12345;
        while ((g >>> 8) % 10000 != 9999) {
            seed++;
            g = 1103515245 * seed + 12345;
        }
        x.sow(0, 1, seed, 0, 10000);
        Check.due("the greatest", x.row(2, 1), 9999);
        x.sow(0, 1, seed, 0, 9999);
        Check.due("of one fewer", x.row(3, 1), (g >>> 8) % 9999);
    }

    private static void sowBeginsWithTheSeed() {
        Check.sentence("3: seed at first");
        GreatSort x = new GreatSort();
        x.sow(0, 3, 77, 0, 10000);
        x.sow(0, 3, 77, 0, 10000);
        for (int i = 0; i < 3; i++) {
            Check.due("begun anew", x.row(3 + i, 1), x.row(i, 1));
        }
        Check.due("not the same all along", x.row(0, 1) == x.row(1, 1), false);
    }

    private static void sowTakesSlopes() {
        Check.sentence("3: the number that it will have times slope (-100 .. 100)");
        int[] slopes = {-100, -1, 0, 1, 100};
        for (int slope : slopes) {
            GreatSort x = Given.rising(299);
            Check.due("sow", x.sow(1, 1, 5, slope, 1), 300);
            Check.due("sow", x.sow(1, 100, 5, slope, 1), 400);
            Check.due("first", x.row(299, 1), 299 * slope);
            Check.due("second", x.row(300, 1), 300 * slope);
            Check.due("last", x.row(399, 1), 399 * slope);
        }
        for (int slope : Refused.outside(-100, 100)) {
            Refused.atEachStage("sow slope " + slope, x -> x.sow(0, 1, 5, slope, 1), NONE);
        }
    }

    private static void sowTakesSpreads() {
        Check.sentence("3: spread (1 .. 10000)");
        GreatSort x = new GreatSort();
        Check.due("1", x.sow(0, 50, 31, 0, 1), 50);
        for (int i = 0; i < 50; i++) {
            Check.due("spread 1", x.row(i, 1), 0);
        }
        x.clear();
        Check.due("10000", x.sow(0, 50, 31, 3, 10000), 50);
        hasSown(x, 50, 31, 3, 10000);
        x.clear();
        Check.due("2", x.sow(0, 50, 31, -3, 2), 50);
        hasSown(x, 50, 31, -3, 2);
        for (int spread : Refused.outside(1, 10000)) {
            Refused.atEachStage("sow spread " + spread, y -> y.sow(0, 1, 5, 0, spread), NONE);
        }
        Refused.atEachStage("sow spread -1", y -> y.sow(0, 1, 5, 0, -1), NONE);
    }

    private static void sowRefusesDoingNothing() {
        Check.sentence("3: NONE, doing nothing, if something can't be");
        Refused.atEachStage("all wrong", x -> x.sow(-1, 0, 5, 101, 0), NONE);
        Refused.atEachStage("the last one wrong, many rows", x -> x.sow(3, 100, 5, 100, 10001), NONE);
        Refused.atEachStage("the first one wrong, many rows", x -> x.sow(4, 100, 5, 100, 10000), NONE);
    }

    private static void sowRefusesMoreThan400() {
        Check.sentence("3: NONE, doing nothing, if there would be more than 400");
        GreatSort x = Given.rising(300);
        Check.due("just 400", x.sow(1, 100, 3, 0, 1), 400);
        Check.due("401", x.sow(1, 1, 3, 0, 1), NONE);
        Check.due("500", x.sow(1, 100, 3, 0, 1), NONE);
        Check.due("still 400", x.count(0), 400);
        Check.due("the last row is as it was", x.row(399, 0), 1);
        GreatSort y = Given.rising(301);
        Check.due("401", y.sow(1, 100, 3, 0, 1), NONE);
        Check.due("nothing is done", y.count(0), 301);
        Check.due("nothing is done", y.row(301, 0), NO_ROW);
        Check.due("just 400", y.sow(1, 99, 3, 0, 1), 400);
        GreatSort z = Given.rising(399);
        Check.due("401", z.sow(1, 2, 3, 0, 1), NONE);
        Check.due("the next number is still free", z.give(2, 0), 399);
        Check.due("row 399 is the given one", z.row(399, 0), 2);
    }

    private static void clearTellsHowManyThereWere() {
        Check.sentence("4: how many there were");
        GreatSort x = new GreatSort();
        Check.due("none", x.clear(), 0);
        x.give(0, 1);
        Check.due("one", x.clear(), 1);
        Check.due("none more", x.clear(), 0);
        Check.due("400", Given.rising(400).clear(), 400);
        GreatSort y = Given.of(1, 2);
        y.runs(1);
        y.give(0, 3);
        Check.due("with one that is in no run", y.clear(), 3);
    }

    private static void clearTakesAllThatIsMadeOfRows() {
        Check.sentence("4: All ROWS go, and RUNS, PLAN, CUT with them");
        for (Supplier<GreatSort> stage : Given.STAGES) {
            GreatSort x = stage.get();
            x.clear();
            Check.due("no rows", x.count(0), 0);
            Check.due("no row", x.row(0, 0), NO_ROW);
            Check.due("no rank", x.rank(0), NONE);
            Shows.noRuns(x);
        }
    }

    private static void clearKeepsTheOrderAndHosts() {
        Check.sentence("4: (THE ORDER stays)");
        GreatSort x = Given.atEnd();
        x.clear();
        x.give(0, 1);
        x.give(1, 1);
        x.give(1, 2);
        x.give(2, 0);
        x.give(3, 0);
        int[] due = {2, 1, 0, 4, 3};
        for (int i = 0; i < 5; i++) {
            Check.due("rank(" + i + ")", x.rank(i), due[i]);
        }
        Check.due("a pace stays", x.host(1, 0), 3);
        Check.due("down stays", x.host(3, 1), 0);
        Check.due("up stays", x.host(4, 1), 1);
    }

    private static void orderWantsEachOnce() {
        Check.sentence("5: false if they are not each once");
        int told = 0;
        for (int all = 0; all < 256; all++) {
            int a = all >> 6;
            int b = all >> 4 & 3;
            int c = all >> 2 & 3;
            int d = all & 3;
            boolean each = (1 << a | 1 << b | 1 << c | 1 << d) == 15;
            Check.due("order(" + a + ", " + b + ", " + c + ", " + d + ")", new GreatSort().order(a, b, c, d), each);
            told += each ? 1 : 0;
            if (!each) {
                Refused.from(Given::rows, "not each once", x -> Check.bit(x.order(a, b, c, d)), 0);
            }
        }
        Check.due("as many as there are", told, 24);
        for (int wrong : Refused.outside(0, 3)) {
            Refused.atEachStage("the first is " + wrong, x -> Check.bit(x.order(wrong, 1, 2, 3)), 0);
            Refused.atEachStage("the second is " + wrong, x -> Check.bit(x.order(0, wrong, 2, 3)), 0);
            Refused.atEachStage("the third is " + wrong, x -> Check.bit(x.order(0, 1, wrong, 3)), 0);
            Refused.atEachStage("the fourth is " + wrong, x -> Check.bit(x.order(0, 1, 2, wrong)), 0);
            Refused.atEachStage("all are " + wrong, x -> Check.bit(x.order(wrong, wrong, wrong, wrong)), 0);
        }
    }

    private static void orderRefusedWhileThereAreRuns() {
        Check.sentence("5: false if there are RUNS");
        for (Supplier<GreatSort> stage : Given.WITH_RUNS) {
            Refused.from(stage, "another order", x -> Check.bit(x.order(3, 2, 1, 0)), 0);
            Refused.from(stage, "the order that is told", x -> Check.bit(x.order(1, 0, 3, 2)), 0);
            Refused.from(stage, "not each once", x -> Check.bit(x.order(1, 1, 1, 1)), 0);
        }
        GreatSort x = Given.rows();
        Check.due("without runs", x.order(1, 0, 3, 2), true);
        Check.due("without runs", x.order(3, 2, 1, 0), true);
    }

    private static void fallsWantsASort() {
        Check.sentence("6: false if there is no such SORT");
        GreatSort x = new GreatSort();
        for (int sort = 0; sort <= 3; sort++) {
            x.give(sort, LEAST);
            x.give(sort, GREATEST);
        }
        for (int sort = 0; sort <= 3; sort++) {
            Check.due("falls(" + sort + ", true)", x.falls(sort, true), true);
            for (int other = 0; other <= 3; other++) {
                Check.due("sort " + other, x.against(2 * other, 2 * other + 1), other <= sort ? 1 : -1);
            }
            Check.due("told again", x.falls(sort, true), true);
            Check.due("still falls", x.against(2 * sort, 2 * sort + 1), 1);
        }
        Check.due("rises", x.falls(0, false), true);
        Check.due("rises", x.against(0, 1), -1);
        for (int sort : Refused.outside(0, 3)) {
            Refused.atEachStage("falls(" + sort + ", true)", y -> Check.bit(y.falls(sort, true)), 0);
            Refused.atEachStage("falls(" + sort + ", false)", y -> Check.bit(y.falls(sort, false)), 0);
        }
    }

    private static void fallsRefusedWhileThereAreRuns() {
        Check.sentence("6: false if there are RUNS");
        for (Supplier<GreatSort> stage : Given.WITH_RUNS) {
            Refused.from(stage, "falls(0, true)", x -> Check.bit(x.falls(0, true)), 0);
            Refused.from(stage, "falls(1, false)", x -> Check.bit(x.falls(1, false)), 0);
            Refused.from(stage, "as it is told", x -> Check.bit(x.falls(1, true)), 0);
        }
        Check.due("without runs", Given.rows().falls(1, false), true);
    }

    private static void rowThatIsNotThere() {
        Check.sentence("7: -1000000 if there is none such");
        for (int n : new int[] {0, 1, 400}) {
            GreatSort x = Given.rising(n);
            for (int i : Refused.outside(0, n - 1)) {
                Check.due("row(" + i + ", 0) of " + n, x.row(i, 0), NO_ROW);
                Check.due("row(" + i + ", 1) of " + n, x.row(i, 1), NO_ROW);
            }
            Check.due("the last one of " + n, x.row(n - 1, 1), n == 0 ? NO_ROW : n - 1);
            Check.due("the first one of " + n, x.row(0, 0), n == 0 ? NO_ROW : 0);
        }
        GreatSort y = Given.rising(400);
        y.clear();
        y.give(0, 1);
        Check.due("one that went", y.row(1, 1), NO_ROW);
        Check.due("one that went", y.row(399, 1), NO_ROW);
    }

    private static void rowOfOtherThings() {
        Check.sentence("7: Of a ROW: 0 SORT, 1 value");
        GreatSort x = new GreatSort();
        x.give(3, LEAST);
        Check.due("0", x.row(0, 0), 3);
        Check.due("1", x.row(0, 1), LEAST);
        for (int what : Refused.outside(0, 1)) {
            Check.due("row(0, " + what + ")", x.row(0, what), NO_ROW);
            Check.due("row(1, " + what + ")", x.row(1, what), NO_ROW);
        }
    }

    private static void againstTheSame() {
        Check.sentence("8: 0 they are the same");
        GreatSort x = Given.rising(400);
        for (int i : new int[] {0, 1, 398, 399}) {
            Check.due("against(" + i + ", " + i + ")", x.against(i, i), 0);
        }
        GreatSort y = Given.of(5, 5);
        Check.due("of like keys the first one is ahead", y.against(0, 1), -1);
        Check.due("of like keys the other one is behind", y.against(1, 0), 1);
    }

    private static void againstOneThatIsNotThere() {
        Check.sentence("8: -2 if there are none such");
        for (int n : new int[] {0, 1, 400}) {
            GreatSort x = Given.rising(n);
            for (int i : Refused.outside(0, n - 1)) {
                Check.due("against(0, " + i + ") of " + n, x.against(0, i), -2);
                Check.due("against(" + i + ", 0) of " + n, x.against(i, 0), -2);
                Check.due("against(" + i + ", " + i + ") of " + n, x.against(i, i), -2);
            }
        }
    }

    private static void rankCountsAllRows() {
        Check.sentence("9: How many ROWS stand ahead of a ROW, of all");
        GreatSort x = Given.falling(400);
        Check.due("of the first one in the order", x.rank(399), 0);
        Check.due("of the last one in the order", x.rank(0), 399);
        GreatSort y = Given.of(5);
        Check.due("alone", y.rank(0), 0);
        y.runs(1);
        y.give(0, 4);
        y.give(0, 5);
        Check.due("one that is in no run is ahead", y.rank(0), 1);
        Check.due("in no run", y.rank(1), 0);
        Check.due("in no run, of a like key", y.rank(2), 2);
    }

    private static void rankOfOneThatIsNotThere() {
        Check.sentence("9: NONE if there is none such");
        for (int n : new int[] {0, 1, 400}) {
            GreatSort x = Given.rising(n);
            for (int i : Refused.outside(0, n - 1)) {
                Check.due("rank(" + i + ") of " + n, x.rank(i), NONE);
            }
        }
    }
}
