import java.util.function.Supplier;

/** Terms V and promises 21 to 28: a test for each sentence that names a boundary case. */
public final class EdgeHostsTest {
    private static final int NONE = -1;

    private EdgeHostsTest() {
    }

    public static void main(String[] args) {
        hostsAre0To7();
        pacesAre0To50();
        pacesAre10AtFirst();
        allAreUpAtFirst();
        eachPartLiesOnItsHost();
        partsOfHostsThatAreDown();
        partsOfSeveralHostsThatAreDown();
        aCutWithNoHostUp();
        theLeastNumberFirst();
        asManyRowsAsThePaceTells();
        withWhatIsLeftOfThePace();
        anEmptyPartIsDoneAsItIsMet();
        aPaceOf0();
        hostsThatAreUpWork();
        partsOfAFallenHostBeginAnew();
        anEmptyPartThatFalls();
        theFewestRowsLeft();
        ofAsManyTheLeastNumber();
        eachInOrder();
        ifNoneIsUpTheyLieNowhere();
        thenTheyLieOnThatOneAll();
        theEndIsThereIfAllPartsAreDone();
        paceRefused();
        paceBetweenTicks();
        fallTellsHowManyPartsGo();
        fallOfOneThatIsDown();
        riseTellsHowManyPartsCome();
        riseOfOneThatIsUp();
        hostThatIsNotThere();
        hostOfOtherThings();
        hostWithoutACut();
        tickWithoutACut();
        tickTellsHowManyRows();
        workWithoutACut();
        workOfOtherThings();
        workMergedBefore();
        endThatIsNotThere();
        endAtAPlaceThatIsNotThere();
        endOfMostRows();
        countOfOthers();
        countWithoutACut();
        Check.end();
    }

    private static GreatSort allOnHost0(int parts, int size) {
        GreatSort x = Given.ofParts(parts, size);
        for (int host = 1; host < 8; host++) {
            x.fall(host);
        }
        Check.due("all lie on host 0", x.host(0, 2), parts);
        return x;
    }

    private static void fallAll(GreatSort x) {
        for (int host = 0; host < 8; host++) {
            x.fall(host);
        }
    }

    private static void hostsAre0To7() {
        Check.sentence("V: HOSTS 0 .. 7");
        GreatSort x = new GreatSort();
        for (int host = 0; host <= 7; host++) {
            Check.due("pace", x.pace(host, 20 + host), true);
            Check.due("fall", x.fall(host), 0);
            Check.due("down", x.host(host, 1), 0);
        }
        for (int host = 0; host <= 7; host++) {
            Check.due("each has its own pace", x.host(host, 0), 20 + host);
            Check.due("rise", x.rise(host), 0);
            Check.due("up", x.host(host, 1), 1);
        }
        for (int host : Refused.outside(0, 7)) {
            Refused.atEachStage("pace(" + host + ", 1)", y -> Check.bit(y.pace(host, 1)), 0);
            Refused.atEachStage("fall(" + host + ")", y -> y.fall(host), NONE);
            Refused.atEachStage("rise(" + host + ")", y -> y.rise(host), NONE);
            Refused.atEachStage("host(" + host + ", 0)", y -> y.host(host, 0), NONE);
        }
    }

    private static void pacesAre0To50() {
        Check.sentence("V: a PACE (ROWS a tick, 0 .. 50)");
        for (int pace = 0; pace <= 50; pace++) {
            GreatSort x = Given.ofParts(1, 51);
            Check.due("pace(0, " + pace + ")", x.pace(0, pace), true);
            Check.due("host(0, 0)", x.host(0, 0), pace);
            Check.due("rows a tick", x.tick(), pace);
            Check.due("merged", x.part(0, 1), pace);
        }
        for (int pace : Refused.outside(0, 50)) {
            Refused.atEachStage("pace(0, " + pace + ")", y -> Check.bit(y.pace(0, pace)), 0);
            Refused.atEachStage("pace(7, " + pace + ")", y -> Check.bit(y.pace(7, pace)), 0);
        }
    }

    private static void pacesAre10AtFirst() {
        Check.sentence("V: 10 at first");
        GreatSort x = Given.ofParts(8, 11);
        for (int host = 0; host < 8; host++) {
            Check.due("host(" + host + ", 0)", x.host(host, 0), 10);
        }
        Check.due("tick", x.tick(), 80);
        Shows.merged(x, 10, 10, 10, 10, 10, 10, 10, 10);
    }

    private static void allAreUpAtFirst() {
        Check.sentence("V: and are UP (all at first)");
        for (int host = 0; host < 8; host++) {
            GreatSort x = new GreatSort();
            Check.due("up", x.host(host, 1), 1);
            Check.due("rise", x.rise(host), NONE);
            Check.due("fall", x.fall(host), 0);
        }
    }

    private static void eachPartLiesOnItsHost() {
        Check.sentence("V: With a CUT each PART j lies on HOST j");
        GreatSort x = Given.ofParts(8, 3);
        Shows.liesOn(x, 0, 1, 2, 3, 4, 5, 6, 7);
        x.fall(0);
        x.rise(0);
        Check.due("it went elsewhere", x.part(0, 2), 1);
        x.cut(8, 1);
        Shows.liesOn(x, 0, 1, 2, 3, 4, 5, 6, 7);
        x.cut(1, 1);
        Shows.liesOn(x, 0);
        for (int host = 1; host < 8; host++) {
            Check.due("none lies on host " + host, x.host(host, 2), 0);
        }
    }

    private static void partsOfHostsThatAreDown() {
        Check.sentence("V: (if that is DOWN, as one that falls)");
        // PART 1 lies on HOST 1 when one is looked for, for PART 0.
        GreatSort x = Given.ofParts(2, 4);
        x.fall(0);
        x.cut(2, 1);
        Shows.liesOn(x, 2, 1);
        // The last HOST is DOWN, and all others have as many ROWS.
        GreatSort y = Given.ofParts(8, 2);
        y.fall(7);
        y.cut(8, 1);
        Shows.liesOn(y, 0, 1, 2, 3, 4, 5, 6, 0);
        // A HOST without a PART is DOWN: nothing is moved.
        GreatSort z = Given.ofParts(7, 2);
        z.fall(7);
        z.cut(7, 1);
        Shows.liesOn(z, 0, 1, 2, 3, 4, 5, 6);
    }

    private static void partsOfSeveralHostsThatAreDown() {
        Check.sentence("V: (if that is DOWN, as one that falls), several");
        GreatSort x = Given.withEmptyParts();
        x.fall(2);
        x.fall(4);
        x.cut(5, 2);
        // PARTS of 0 0 2 0 2 ROWS: HOST 0 has none left, then HOST 1.
        Shows.liesOn(x, 0, 1, 0, 3, 1);
        for (int host = 0; host < 7; host++) {
            x.fall(host);
        }
        x.cut(5, 2);
        Shows.liesOn(x, 7, 7, 7, 7, 7);
        Check.due("on the only one that is up", x.host(7, 2), 5);
    }

    private static void aCutWithNoHostUp() {
        Check.sentence("V: if none is UP, they lie nowhere, with a CUT");
        GreatSort x = Given.ofParts(8, 2);
        fallAll(x);
        Check.due("cut", x.cut(8, 1), 16);
        Shows.liesOn(x, NONE, NONE, NONE, NONE, NONE, NONE, NONE, NONE);
        Check.due("tick", x.tick(), 0);
        Shows.work(x, 1, 0, 0, 0, 0);
        Check.due("rise", x.rise(3), 8);
        Shows.liesOn(x, 3, 3, 3, 3, 3, 3, 3, 3);
        Check.due("left", x.host(3, 3), 16);
        Check.due("tick", x.tick(), 10);
    }

    private static void theLeastNumberFirst() {
        Check.sentence("V: A HOST works at its PARTS that are not done, the one with the least number first");
        GreatSort x = Given.ofParts(3, 10);
        x.pace(1, 4);
        x.pace(0, 0);
        x.pace(2, 0);
        x.tick();
        for (int host = 3; host < 8; host++) {
            x.fall(host);
        }
        x.fall(2);
        // HOST 1 has six ROWS left, HOST 0 ten: PART 2 lies on HOST 1; then PART 0, too.
        x.fall(0);
        Shows.liesOn(x, 1, 1, 1);
        x.tick();
        Shows.merged(x, 4, 4, 0);
        x.tick();
        Shows.merged(x, 8, 4, 0);
        x.tick();
        Shows.merged(x, 10, 6, 0);
        x.tick();
        Shows.merged(x, 10, 10, 0);
        x.tick();
        Shows.merged(x, 10, 10, 4);
    }

    private static void asManyRowsAsThePaceTells() {
        Check.sentence("V: so many ROWS of that PART as its PACE tells are merged (fewer, if it has fewer left)");
        int[] sizes = {9, 10, 11};
        for (int size : sizes) {
            GreatSort x = Given.ofParts(1, size);
            Check.due("tick", x.tick(), Math.min(10, size));
            Check.due("done", x.work(3), size <= 10 ? 1 : 0);
            Check.due("the end", x.work(4), size <= 10 ? 1 : 0);
            Check.due("tick", x.tick(), size == 11 ? 1 : 0);
            Shows.work(x, 2, size, 0, 1, 1);
            Check.due("tick", x.tick(), 0);
            Shows.work(x, 3, size, 0, 1, 1);
        }
        GreatSort y = Given.ofParts(1, 400);
        y.pace(0, 50);
        for (int i = 1; i <= 8; i++) {
            Check.due("tick", y.tick(), 50);
            Check.due("the end", y.work(4), i == 8 ? 1 : 0);
        }
        Check.due("tick", y.tick(), 0);
    }

    private static void withWhatIsLeftOfThePace() {
        Check.sentence("V: then it goes on with its next PART, with what is left of the PACE");
        GreatSort x = allOnHost0(4, 3);
        x.pace(0, 3);
        Check.due("just one part", x.tick(), 3);
        Shows.merged(x, 3, 0, 0, 0);
        x.pace(0, 4);
        Check.due("one more", x.tick(), 4);
        Shows.merged(x, 3, 3, 1, 0);
        x.pace(0, 2);
        Check.due("just the rest of a part", x.tick(), 2);
        Shows.merged(x, 3, 3, 3, 0);
        Shows.work(x, 3, 9, 0, 3, 0);
        x.pace(0, 50);
        Check.due("all that is left", x.tick(), 3);
        Shows.work(x, 4, 12, 0, 4, 1);
        GreatSort y = allOnHost0(8, 6);
        y.pace(0, 50);
        Check.due("through all parts", y.tick(), 48);
        Shows.work(y, 1, 48, 0, 8, 1);
    }

    private static void anEmptyPartIsDoneAsItIsMet() {
        Check.sentence("V: an empty PART is done as it is met");
        GreatSort x = Given.withEmptyParts();
        Shows.work(x, 0, 0, 0, 0, 0);
        Check.due("tick", x.tick(), 4);
        Shows.work(x, 1, 4, 0, 5, 1);
        // All on HOST 0, which merges one ROW a TICK: PART 3 is met only behind PART 2.
        GreatSort y = Given.withEmptyParts();
        for (int host = 1; host < 8; host++) {
            y.fall(host);
        }
        y.pace(0, 1);
        Check.due("tick", y.tick(), 1);
        Shows.work(y, 1, 1, 0, 2, 0);
        // PART 2 is done with just this PACE; PART 3 behind it is met, PART 4 gets nothing.
        Check.due("tick", y.tick(), 1);
        Shows.work(y, 2, 2, 0, 4, 0);
        Shows.merged(y, 0, 0, 2, 0, 0);
        y.pace(0, 2);
        Check.due("tick", y.tick(), 2);
        Shows.work(y, 3, 4, 0, 5, 1);
    }

    private static void aPaceOf0() {
        Check.sentence("V: also with a PACE of 0");
        GreatSort x = Given.withEmptyParts();
        for (int host = 0; host < 8; host++) {
            x.pace(host, 0);
        }
        Check.due("tick", x.tick(), 0);
        Shows.work(x, 1, 0, 0, 3, 0);
        Check.due("tick", x.tick(), 0);
        Shows.work(x, 2, 0, 0, 3, 0);
        GreatSort y = Given.withEmptyParts();
        for (int host = 1; host < 8; host++) {
            y.fall(host);
        }
        y.pace(0, 0);
        Check.due("tick", y.tick(), 0);
        // PARTS 0 and 1; PART 3 is not met, as PART 2 has ROWS.
        Shows.work(y, 1, 0, 0, 2, 0);
        Check.due("tick", y.tick(), 0);
        Shows.work(y, 2, 0, 0, 2, 0);
    }

    private static void hostsThatAreUpWork() {
        Check.sentence("V: a TICK: all HOSTS that are UP");
        GreatSort x = Given.ofParts(8, 20);
        for (int host = 0; host < 8; host++) {
            x.pace(host, host);
        }
        Check.due("tick", x.tick(), 28);
        Shows.merged(x, 0, 1, 2, 3, 4, 5, 6, 7);
        fallAll(x);
        Check.due("none is up", x.tick(), 0);
        Check.due("it is a tick", x.work(0), 2);
        Shows.merged(x, 0, 0, 0, 0, 0, 0, 0, 0);
        x.rise(7);
        x.rise(6);
        Check.due("host 6 has no parts", x.tick(), 7);
        Shows.merged(x, 7, 0, 0, 0, 0, 0, 0, 0);
    }

    private static void partsOfAFallenHostBeginAnew() {
        Check.sentence("V: all PARTS that lie on it, done ones, too, lie elsewhere from then on, with none of their ROWS merged");
        GreatSort x = Given.ofParts(2, 10);
        x.tick();
        Shows.work(x, 1, 20, 0, 2, 1);
        Check.due("a done one", x.fall(0), 1);
        Shows.liesOn(x, 1, 1);
        Shows.merged(x, 0, 10);
        Shows.work(x, 1, 20, 0, 1, 0);
        Check.due("none lies on it", x.host(0, 2), 0);
        Check.due("rise", x.rise(0), 0);
        Check.due("none comes back", x.host(0, 2), 0);
        Check.due("tick", x.tick(), 10);
        Shows.work(x, 2, 30, 10, 2, 1);
        Check.due("one done by it and one it was given", x.fall(1), 2);
        Shows.merged(x, 0, 0);
        Shows.work(x, 2, 30, 10, 0, 0);
    }

    private static void anEmptyPartThatFalls() {
        Check.sentence("V: done ones, too, an empty one");
        GreatSort x = Given.withEmptyParts();
        x.tick();
        Check.due("all done", x.work(4), 1);
        Check.due("fall", x.fall(0), 1);
        Check.due("it is not done", x.work(3), 4);
        Check.due("no end", x.work(4), 0);
        Check.due("no end", x.end(0), NONE);
        Check.due("it lies on the least one that has none left", x.part(0, 2), 1);
        Check.due("met again", x.tick(), 0);
        Shows.work(x, 2, 4, 0, 5, 1);
        Check.due("the end", x.end(0), 0);
    }

    private static void theFewestRowsLeft() {
        Check.sentence("V: on the HOST that is UP and has the fewest ROWS left to be merged");
        GreatSort x = Given.ofParts(8, 10);
        for (int host = 0; host < 8; host++) {
            x.pace(host, host == 6 ? 9 : host);
        }
        x.tick();
        // Left: 10 9 8 7 6 5 1 3, then HOST 6 has 11: HOST 7 is the next.
        x.fall(0);
        Check.due("host 6", x.part(0, 2), 6);
        x.fall(1);
        Check.due("host 7", x.part(1, 2), 7);
        x.fall(5);
        Check.due("host 4, with 6 left", x.part(5, 2), 4);
        // HOST 7, with 13 left, would have been the last one; a HOST that is DOWN has none left, and is not chosen.
        x.fall(3);
        Check.due("host 2, with 8 left", x.part(3, 2), 2);
    }

    private static void ofAsManyTheLeastNumber() {
        Check.sentence("V: (of as many the least number)");
        GreatSort x = Given.ofParts(8, 5);
        x.fall(7);
        Check.due("host 0", x.part(7, 2), 0);
        x.fall(6);
        Check.due("host 1, as host 0 has ten", x.part(6, 2), 1);
        GreatSort y = Given.ofParts(3, 10);
        y.tick();
        y.fall(1);
        Check.due("host 0 has as few left as those without a part", y.part(1, 2), 0);
        GreatSort z = Given.ofParts(3, 11);
        z.tick();
        z.fall(1);
        Check.due("host 3 is the first one with none left", z.part(1, 2), 3);
        z.fall(3);
        Check.due("host 4 is the next", z.part(1, 2), 4);
    }

    private static void eachInOrder() {
        Check.sentence("V: each, in order");
        GreatSort x = Given.rising(12);
        x.runs(1);
        x.cut(3, 1);
        for (int host = 1; host < 8; host++) {
            x.fall(host);
        }
        x.rise(4);
        x.rise(6);
        Check.due("three", x.fall(0), 3);
        // Each of four ROWS: HOST 4, HOST 6, then HOST 4 again.
        Shows.liesOn(x, 4, 6, 4);
        x.pace(4, 1);
        x.tick();
        x.rise(2);
        x.rise(3);
        Check.due("two", x.fall(4), 2);
        Shows.liesOn(x, 2, 6, 3);
        // HOST 6 is done with its PART: one that falls finds it with none left.
        Check.due("one", x.fall(3), 1);
        Shows.liesOn(x, 2, 6, 6);
    }

    private static void ifNoneIsUpTheyLieNowhere() {
        Check.sentence("V: if none is UP, they lie nowhere");
        GreatSort x = allOnHost0(3, 5);
        x.tick();
        Check.due("all go nowhere", x.fall(0), 3);
        Shows.liesOn(x, NONE, NONE, NONE);
        Shows.merged(x, 0, 0, 0);
        Shows.work(x, 1, 10, 0, 0, 0);
        for (int host = 0; host < 8; host++) {
            Check.due("none lies on host " + host, x.host(host, 2), 0);
            Check.due("none left on host " + host, x.host(host, 3), 0);
        }
        Check.due("tick", x.tick(), 0);
        Check.due("end", x.end(0), NONE);
        Check.due("they stay nowhere", x.part(2, 2), NONE);
    }

    private static void thenTheyLieOnThatOneAll() {
        Check.sentence("V: till a HOST comes UP: then they lie on that one, all");
        for (int host = 0; host < 8; host++) {
            GreatSort x = Given.ofParts(8, 1);
            fallAll(x);
            Check.due("rise(" + host + ")", x.rise(host), 8);
            for (int j = 0; j < 8; j++) {
                Check.due("part(" + j + ", 2)", x.part(j, 2), host);
            }
            Check.due("parts on it", x.host(host, 2), 8);
            Check.due("another one gets none", x.rise((host + 1) % 8), 0);
            Check.due("parts on it", x.host(host, 2), 8);
            Check.due("tick", x.tick(), 8);
            Check.due("the end", x.work(4), 1);
        }
    }

    private static void theEndIsThereIfAllPartsAreDone() {
        Check.sentence("V: THE END is there, if all PARTS are done");
        GreatSort x = Given.ofParts(8, 10);
        x.pace(7, 9);
        x.tick();
        Shows.work(x, 1, 79, 0, 7, 0);
        Check.due("all but one row", x.end(0), NONE);
        x.tick();
        Shows.work(x, 2, 80, 0, 8, 1);
        Check.due("the end", x.end(0), 0);
        Check.due("the end", x.end(79), 79);
        x.fall(3);
        Shows.work(x, 2, 80, 0, 7, 0);
        Check.due("no more", x.end(0), NONE);
        x.tick();
        Check.due("there again", x.end(79), 79);
        GreatSort y = Given.ofParts(1, 10);
        y.tick();
        y.fall(5);
        Check.due("one without a part falls", y.work(4), 1);
        y.cut(1, 1);
        Check.due("another cut", y.work(4), 0);
    }

    private static void paceRefused() {
        Check.sentence("21: false if there is none such, or it can't be");
        for (int host : Refused.outside(0, 7)) {
            for (int pace : Refused.outside(0, 50)) {
                Refused.from(Given::atWork, "pace(" + host + ", " + pace + ")", x -> Check.bit(x.pace(host, pace)), 0);
            }
        }
        GreatSort x = new GreatSort();
        Check.due("pace(0, 0)", x.pace(0, 0), true);
        Check.due("pace(7, 50)", x.pace(7, 50), true);
        Check.due("host(0, 0)", x.host(0, 0), 0);
        Check.due("host(7, 0)", x.host(7, 0), 50);
    }

    private static void paceBetweenTicks() {
        Check.sentence("21: PACE of a HOST: true");
        GreatSort x = Given.ofParts(1, 100);
        x.tick();
        x.fall(0);
        Check.due("of one that is down", x.pace(0, 3), true);
        Check.due("host(0, 0)", x.host(0, 0), 3);
        Check.due("told again", x.pace(0, 3), true);
        x.rise(0);
        Check.due("it stays", x.host(0, 0), 3);
        x.cut(1, 1);
        Check.due("with a new cut", x.tick(), 3);
        x.runs(1);
        x.clear();
        Check.due("it stays", x.host(0, 0), 3);
    }

    private static void fallTellsHowManyPartsGo() {
        Check.sentence("22: how many PARTS go elsewhere (or nowhere)");
        for (Supplier<GreatSort> stage : Given.WITHOUT_A_CUT) {
            Check.due("without a cut", stage.get().fall(7), 0);
        }
        GreatSort x = Given.ofParts(7, 1);
        Check.due("none lies on it", x.fall(7), 0);
        Check.due("host 0", x.fall(0), 1);
        Check.due("host 1, with part 0", x.fall(1), 2);
        Check.due("host 2, with part 0", x.fall(2), 2);
        Check.due("host 3, with part 1", x.fall(3), 2);
        // PARTS 0 and 3 came to HOST 4, then 0 and 4 went to HOST 5, which had 2.
        Check.due("host 4", x.fall(4), 3);
        Check.due("host 5", x.fall(5), 4);
        Check.due("host 6, the last one: nowhere", x.fall(6), 7);
    }

    private static void fallOfOneThatIsDown() {
        Check.sentence("22: NONE if there is none such, or it is DOWN");
        for (Supplier<GreatSort> stage : Given.STAGES.subList(1, Given.STAGES.size())) {
            Refused.from(stage, "fall(2)", x -> x.fall(2), NONE);
            Refused.from(stage, "fall(5)", x -> x.fall(5), NONE);
        }
        for (int host = 0; host < 8; host++) {
            GreatSort x = Given.ofParts(8, 1);
            Check.due("up", x.fall(host), 1);
            Check.due("down", x.fall(host), NONE);
            x.rise(host);
            Check.due("up again", x.fall(host), 0);
        }
    }

    private static void riseTellsHowManyPartsCome() {
        Check.sentence("23: how many PARTS, which lay nowhere, lie on it then");
        for (Supplier<GreatSort> stage : Given.WITHOUT_A_CUT) {
            GreatSort x = stage.get();
            x.fall(7);
            Check.due("without a cut", x.rise(7), 0);
        }
        GreatSort y = Given.ofParts(3, 2);
        y.fall(1);
        Check.due("none lay nowhere", y.rise(1), 0);
        Check.due("its part stays elsewhere", y.part(1, 2), 3);
        fallAll(y);
        Check.due("all", y.rise(1), 3);
        Check.due("none more", y.rise(2), 0);
        GreatSort z = Given.ofParts(1, 2);
        fallAll(z);
        z.runs(1);
        Check.due("the cut went", z.rise(4), 0);
    }

    private static void riseOfOneThatIsUp() {
        Check.sentence("23: NONE if there is none such, or it is UP");
        for (int host = 0; host < 8; host++) {
            int up = host;
            Refused.from(GreatSort::new, "rise(" + host + ")", x -> x.rise(up), NONE);
        }
        for (Supplier<GreatSort> stage : Given.STAGES) {
            Refused.from(stage, "rise(0)", x -> x.rise(0), NONE);
            Refused.from(stage, "rise(7)", x -> x.rise(7), NONE);
        }
        GreatSort y = new GreatSort();
        y.fall(0);
        Check.due("down", y.rise(0), 0);
        Check.due("up", y.rise(0), NONE);
    }

    private static void hostThatIsNotThere() {
        Check.sentence("24: NONE if there is none such");
        for (Supplier<GreatSort> stage : Given.STAGES) {
            GreatSort x = stage.get();
            for (int host : Refused.outside(0, 7)) {
                for (int what = -1; what <= 5; what++) {
                    Check.due("host(" + host + ", " + what + ")", x.host(host, what), NONE);
                }
            }
        }
    }

    private static void hostOfOtherThings() {
        Check.sentence("24: 0 PACE, 1 whether it is UP (1, 0), 2 PARTS that lie on it, 3 ROWS of these that are left, "
                + "4 ROWS that it has merged since the CUT");
        GreatSort x = Given.ofParts(8, 15);
        x.pace(7, 12);
        x.tick();
        x.fall(6);
        // HOST 7 has the fewest left, three.
        int[] due = {12, 1, 2, 18, 12};
        int[] down = {10, 0, 0, 0, 10};
        for (int what = 0; what <= 4; what++) {
            Check.due("host(7, " + what + ")", x.host(7, what), due[what]);
            Check.due("host(6, " + what + ")", x.host(6, what), down[what]);
        }
        for (int what : Refused.outside(0, 4)) {
            for (int host = 0; host < 8; host++) {
                Check.due("host(" + host + ", " + what + ")", x.host(host, what), NONE);
            }
        }
        x.cut(1, 1);
        Check.due("since the cut", x.host(7, 4), 0);
        x.pace(0, 0);
        x.tick();
        Check.due("a pace of 0 merges none", x.host(0, 4), 0);
    }

    private static void hostWithoutACut() {
        Check.sentence("24: (2 to 4: 0 without a CUT)");
        for (Supplier<GreatSort> stage : Given.WITHOUT_A_CUT) {
            GreatSort x = stage.get();
            for (int host = 0; host < 8; host++) {
                for (int what = 2; what <= 4; what++) {
                    Check.due("host(" + host + ", " + what + ")", x.host(host, what), 0);
                }
                Check.due("host(" + host + ", 5)", x.host(host, 5), NONE);
            }
        }
    }

    private static void tickWithoutACut() {
        Check.sentence("25: NONE without a CUT");
        for (Supplier<GreatSort> stage : Given.WITHOUT_A_CUT) {
            Refused.from(stage, "tick()", GreatSort::tick, NONE);
        }
        GreatSort x = Given.runs();
        x.cut(0, 1);
        Check.due("a cut that was refused", x.tick(), NONE);
        x.cut(1, 1);
        Check.due("a cut", x.tick(), 1);
        Check.due("one tick", x.work(0), 1);
    }

    private static void tickTellsHowManyRows() {
        Check.sentence("25: how many ROWS are merged in it");
        GreatSort x = Given.ofParts(8, 50);
        for (int host = 0; host < 8; host++) {
            x.pace(host, 50);
        }
        Check.due("the most that can be", x.tick(), 400);
        Check.due("nothing is left", x.tick(), 0);
        Shows.work(x, 2, 400, 0, 8, 1);
        x.fall(0);
        Check.due("merged again", x.tick(), 50);
        Shows.work(x, 3, 450, 50, 8, 1);
    }

    private static void workWithoutACut() {
        Check.sentence("26: NONE without a CUT");
        for (Supplier<GreatSort> stage : Given.WITHOUT_A_CUT) {
            GreatSort x = stage.get();
            for (int what = -1; what <= 5; what++) {
                Check.due("work(" + what + ")", x.work(what), NONE);
            }
        }
    }

    private static void workOfOtherThings() {
        Check.sentence("26: NONE for others");
        for (Supplier<GreatSort> stage : Given.STAGES) {
            GreatSort x = stage.get();
            for (int what : Refused.outside(0, 4)) {
                Check.due("work(" + what + ")", x.work(what), NONE);
            }
        }
        Shows.work(Given.atEnd(), 2, 10, 2, 4, 1);
        Shows.work(Given.atWork(), 1, 7, 0, 2, 0);
    }

    private static void workMergedBefore() {
        Check.sentence("26: 2 of these such as were merged before");
        GreatSort x = Given.ofParts(1, 20);
        x.tick();
        x.fall(0);
        Check.due("none before they are merged again", x.work(2), 0);
        x.pace(1, 9);
        x.tick();
        Check.due("nine of the ten", x.work(2), 9);
        x.pace(1, 1);
        x.tick();
        Check.due("just the ten", x.work(2), 10);
        x.tick();
        Check.due("the eleventh is new", x.work(2), 10);
        x.fall(1);
        x.pace(2, 20);
        x.tick();
        Check.due("eleven of the twenty", x.work(2), 21);
        x.fall(2);
        x.pace(3, 50);
        x.tick();
        Shows.work(x, 6, 61, 41, 1, 1);
    }

    private static void endThatIsNotThere() {
        Check.sentence("27: NONE if it is not there");
        for (Supplier<GreatSort> stage : Given.WITHOUT_A_CUT) {
            GreatSort x = stage.get();
            for (int i = -1; i <= 8; i++) {
                Check.due("without a cut", x.end(i), NONE);
            }
        }
        GreatSort y = Given.atWork();
        for (int i = -1; i <= 8; i++) {
            Check.due("not all parts are done", y.end(i), NONE);
        }
    }

    private static void endAtAPlaceThatIsNotThere() {
        Check.sentence("27: NONE if there is none such");
        GreatSort x = Given.atEnd();
        x.give(0, 0);
        for (int i : Refused.outside(0, 7)) {
            Check.due("end(" + i + ")", x.end(i), NONE);
        }
        // THE ORDER is 1 0 3 2, SORT 1 falling: 7 7 1, then -3 2 4 9, then SORT 2.
        int[] due = {1, 3, 5, 6, 2, 0, 4, 7};
        for (int i = 0; i < 8; i++) {
            Check.due("end(" + i + ")", x.end(i), due[i]);
        }
        GreatSort y = Given.ofParts(1, 1);
        y.tick();
        Check.due("of one row", y.end(0), 0);
        Check.due("none behind", y.end(1), NONE);
    }

    private static void endOfMostRows() {
        Check.sentence("27: The ROW at place i of THE END, of 400");
        GreatSort x = Given.falling(400);
        x.runs(7);
        x.cut(8, 3);
        for (int i = 0; i < 60 && x.work(4) == 0; i++) {
            x.tick();
        }
        for (int i = 0; i < 380; i++) {
            Check.due("end(" + i + ")", x.end(i), 399 - i);
        }
        Check.due("the last one", x.end(399), 0);
        Check.due("none behind", x.end(400), NONE);
    }

    private static void countOfOthers() {
        Check.sentence("28: NONE for others");
        for (Supplier<GreatSort> stage : Given.STAGES) {
            GreatSort x = stage.get();
            for (int what : Refused.outside(0, 3)) {
                Check.due("count(" + what + ")", x.count(what), NONE);
            }
        }
    }

    private static void countWithoutACut() {
        Check.sentence("28: Of all: 0 ROWS, 1 RUNS of II, 2 SAMPLES of the CUT, 3 PARTS");
        int[][] due = {{0, 0, 0, 0}, {8, 0, 0, 0}, {8, 4, 0, 0}, {8, 4, 0, 0}, {8, 4, 0, 0}, {8, 4, 8, 4}, {8, 4, 8, 4}};
        for (int stage = 0; stage < due.length; stage++) {
            GreatSort x = Given.STAGES.get(stage).get();
            for (int what = 0; what <= 3; what++) {
                Check.due("count(" + what + ") at stage " + stage, x.count(what), due[stage][what]);
            }
        }
        GreatSort y = Given.falling(400);
        y.runs(1);
        y.plan(2);
        y.merge();
        y.cut(8, 1);
        int[] most = {400, 400, 400, 8};
        for (int what = 0; what <= 3; what++) {
            Check.due("the most of count(" + what + ")", y.count(what), most[what]);
        }
    }
}
