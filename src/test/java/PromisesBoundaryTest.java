/**
 * The boundary cases that the document's promises name: a test for each sentence or part of one,
 * which is told about by its own words. Each refused call is shown to leave things as they were.
 */
public final class PromisesBoundaryTest {
    private static final int NONE = PerformRanges.NONE;
    private static final int LEAST = Integer.MIN_VALUE;
    private static final int GREATEST = Integer.MAX_VALUE;
    private static final int[] NO_CELLS = {-1, 16, 17, LEAST, GREATEST};

    public static void main(String[] args) {
        object();
        paragraphs();
        performs();
        untils();
        varies();
        goTos();
        runs();
        plains();
        orders();
        actives();
        cells();
        counts();
        Check.finish();
    }

    private static void object() {
        newObject();
        objectsApart();
        theLastOf512Calls();
    }

    private static void paragraphs() {
        paragraphBelow0();
        paragraphModulo8();
        paragraphFull();
    }

    private static void performs() {
        performFromOrToIsNone();
        performNotYet();
        performKind();
        performFull();
        timesMattersForKind1Alone();
        timesBelow1();
    }

    private static void untils() {
        untilNoStatement();
        untilNoCell();
        untilOtherKind();
        untilFull();
        untilRefusedFirst();
    }

    private static void varies() {
        varyNextLevel();
        varyAnew();
        varyNoStatement();
        varyNoLevel();
        varyNoCell();
        varyOtherKind();
    }

    private static void goTos() {
        goToToItsEnd();
        goToWhereItWentBefore();
        goToParagraphIsNone();
        goToOutOfBounds();
    }

    private static void runs() {
        runOnAnEmptyPile();
        runWithCellsAsTheyAre();
        runNoStatement();
        runKind2NotWhole();
        runKind3NotWhole();
        runSevenLevelsNotWhole();
        runSteps();
    }

    private static void plains() {
        plainAsRun();
        plainAheadOfAll();
        plainRefused();
        plainChangesNothing();
    }

    private static void orders() {
        orderFrom0On();
        orderWhenThereIsNone();
        orderOfTheLatestRun();
        orderOfTheLongestRun();
    }

    private static void actives() {
        activeOnThePile();
        activeWhenTheLatestRunEnded();
        activeNoParagraph();
    }

    private static void cells() {
        getCell();
        getNoCell();
        putWhatItWas();
        putNoCell();
    }

    private static void counts() {
        countAheadOfAll();
        countHowItEnded();
        countOnThePileThen();
        countMostInAllRuns();
        countParagraphsAndStatements();
        countOthers();
    }

    /** A new object whose paragraph 1 adds 1 to cell 0, with a statement of each kind, 1 .. 4. */
    private static PerformRanges ofEachKind() {
        PerformRanges x = Check.with(Check.adds(0, 1));
        for (int kind = 0; kind <= 3; kind++) {
            Check.due("perform", x.perform(1, 1, kind, 2), kind + 1);
        }
        return x;
    }

    private static void newObject() {
        Check.about("Promise 1: No paragraphs, no statements");
        PerformRanges x = new PerformRanges();
        Check.due("count(3)", x.count(3), 0);
        Check.due("count(4)", x.count(4), 0);
        Check.due("active(1)", x.active(1), NONE);
        Check.due("goTo(1, 0)", x.goTo(1, 0), NONE);
        Check.due("perform(1, 1, 0, 0)", x.perform(1, 1, 0, 0), NONE);
        Check.due("until(1, 0, 0, true)", x.until(1, 0, 0, true), NONE);
        Check.due("vary(1, 1, 0, 0, 0)", x.vary(1, 1, 0, 0, 0), NONE);
        Check.due("run(1, 1)", x.run(1, 1), NONE);
        Check.due("plain(1, 1)", x.plain(1, 1), NONE);
    }

    private static void objectsApart() {
        Check.about("Promise 1: No paragraphs, no statements, whatever another object has");
        PerformRanges x = ofEachKind();
        x.run(1, 9);
        PerformRanges y = new PerformRanges();
        Check.due("a new object", Check.stateOf(y), Check.stateOf(new PerformRanges()));
        Check.due("count(3)", y.count(3), 0);
        Check.due("get(0)", y.get(0), 0);
        Check.due("get(0) of the other", x.get(0), 1);
    }

    private static void theLastOf512Calls() {
        Check.about("What it is: at most 512 calls after it has been made");
        PerformRanges x = Check.with(Check.adds(0, 1));
        x.perform(1, 1, 1, 4096);
        for (int call = 3; call <= 511; call++) {
            x.run(1, 4096);
        }
        Check.due("the 512th call", x.get(0), 509 * 4096);
    }

    private static void paragraphBelow0() {
        Check.about("Promise 2: NONE when does is below 0");
        PerformRanges x = new PerformRanges();
        int[] below = {-1, -2, -7, -8, -16, -128, LEAST, LEAST + 1};
        for (int does : below) {
            Check.due("paragraph(" + does + ")", x.paragraph(does), NONE);
        }
        Check.due("count(3)", x.count(3), 0);
        Check.due("paragraph(0)", x.paragraph(0), 1);
    }

    private static void paragraphModulo8() {
        Check.about("Promise 2: or modulo 8 above 4");
        int[] base = {0, 8, 128, GREATEST - 7};
        for (int tens : base) {
            PerformRanges x = new PerformRanges();
            for (int rest = 0; rest <= 7; rest++) {
                int does = tens + rest;
                Check.due("paragraph(" + does + ")", x.paragraph(does), rest <= 4 ? rest + 1 : NONE);
            }
            Check.due("count(3)", x.count(3), 5);
        }
    }

    private static void paragraphFull() {
        Check.about("Promise 2: or there are 60");
        PerformRanges x = new PerformRanges();
        for (int number = 1; number <= 60; number++) {
            Check.due("paragraph(0)", x.paragraph(0), number);
        }
        x.perform(60, 60, 0, 0);
        for (int i = 0; i < 3; i++) {
            Check.due("paragraph(129), full", x.paragraph(129), NONE);
        }
        Check.due("count(3)", x.count(3), 60);
        Check.due("active(61)", x.active(61), NONE);
        x.run(1, 9);
        Check.due("get(0)", x.get(0), 0);
    }

    private static void performFromOrToIsNone() {
        Check.about("Promise 3: NONE when from or to is no paragraph");
        PerformRanges x = Check.with(0, 0);
        int[] none = {0, -1, 3, 60, 61, LEAST, GREATEST};
        for (int paragraph : none) {
            Check.due("perform(" + paragraph + ", 2, 0, 0)", x.perform(paragraph, 2, 0, 0), NONE);
            Check.due("perform(2, " + paragraph + ", 0, 0)", x.perform(2, paragraph, 0, 0), NONE);
        }
        Check.due("count(4)", x.count(4), 0);
        Check.due("perform(1, 2, 0, 0)", x.perform(1, 2, 0, 0), 1);
        Check.due("perform(2, 1, 0, 0)", x.perform(2, 1, 0, 0), 2);
    }

    private static void performNotYet() {
        Check.about("Promise 3: NONE when from or to is no paragraph yet");
        PerformRanges x = new PerformRanges();
        for (int number = 1; number <= 60; number++) {
            Check.due("perform(" + number + ", ..), not yet", x.perform(number, number, 0, 0), NONE);
            x.paragraph(0);
            Check.due("perform(" + number + ", ..)", x.perform(number, number, 0, 0), number);
        }
    }

    private static void performKind() {
        Check.about("Promise 3: kind is not so");
        PerformRanges x = Check.with(0);
        int[] others = {-1, 4, 5, LEAST, GREATEST};
        for (int kind : others) {
            Check.due("perform(1, 1, " + kind + ", 1)", x.perform(1, 1, kind, 1), NONE);
        }
        Check.due("count(4)", x.count(4), 0);
        for (int kind = 0; kind <= 3; kind++) {
            Check.due("perform(1, 1, " + kind + ", 1)", x.perform(1, 1, kind, 1), kind + 1);
        }
    }

    private static void performFull() {
        Check.about("Promise 3: or there are 60");
        PerformRanges x = Check.with(0);
        for (int number = 1; number <= 60; number++) {
            Check.due("perform(1, 1, 1, 3)", x.perform(1, 1, 1, 3), number);
        }
        for (int kind = 0; kind <= 3; kind++) {
            Check.due("perform, full", x.perform(1, 1, kind, 9), NONE);
        }
        Check.due("count(4)", x.count(4), 60);
        Check.due("run(60, 99)", x.run(60, 99), 3);
        Check.due("run(61, 99)", x.run(61, 99), NONE);
    }

    private static void timesMattersForKind1Alone() {
        Check.about("Promise 3: times matters for kind 1 alone");
        int[] times = {LEAST, -1, 0, 1, 7, GREATEST};
        for (int number : times) {
            PerformRanges x = Check.with(Check.adds(0, 1));
            x.perform(1, 1, 0, number);
            x.perform(1, 1, 2, number);
            x.perform(1, 1, 3, number);
            x.until(2, 0, 4, true);
            x.vary(3, 1, 1, 0, 1);
            x.until(3, 1, 5, true);
            Check.due("once, times is " + number, x.run(1, 99), 1);
            Check.due("until, times is " + number, x.run(2, 99), 3);
            Check.due("varying, times is " + number, x.run(3, 99), 5);
        }
    }

    private static void timesBelow1() {
        Check.about("Promise 3: below 1: it never goes");
        int[] times = {0, -1, LEAST, 1};
        for (int number : times) {
            PerformRanges x = Check.with(Check.adds(0, 1));
            x.perform(1, 1, 1, number);
            Check.due("run(1, 99), times is " + number, x.run(1, 99), number == 1 ? 1 : 0);
            Check.due("count(0)", x.count(0), 0);
            Check.due("get(0)", x.get(0), number == 1 ? 1 : 0);
        }
    }

    private static void untilNoStatement() {
        Check.about("Promise 4: NONE when there is no such statement");
        PerformRanges x = Check.with(Check.adds(0, 1));
        x.perform(1, 1, 2, 0);
        int[] none = {0, -1, 2, 60, 61, LEAST, GREATEST};
        for (int statement : none) {
            Check.due("until(" + statement + ", ..)", x.until(statement, 0, 0, true), NONE);
        }
        Check.due("until(1, 0, 3, true)", x.until(1, 0, 3, true), 1);
        Check.due("run(1, 99)", x.run(1, 99), 3);
    }

    private static void untilNoCell() {
        Check.about("Promise 4: NONE when there is no such .. cell");
        for (int kind = 2; kind <= 3; kind++) {
            PerformRanges x = Check.with(0);
            x.perform(1, 1, kind, 0);
            for (int cell : NO_CELLS) {
                Check.due("until(1, " + cell + ", ..)", x.until(1, cell, 0, true), NONE);
            }
            Check.due("until(1, 0, ..)", x.until(1, 0, 0, true), 1);
            Check.due("until(1, 15, ..)", x.until(1, 15, 0, true), 2);
        }
    }

    private static void untilOtherKind() {
        Check.about("Promise 4: its kind is not 2 or 3");
        PerformRanges x = ofEachKind();
        Check.due("until of kind 0", x.until(1, 9, 0, true), NONE);
        Check.due("until of kind 1", x.until(2, 9, 0, true), NONE);
        Check.due("until of kind 2", x.until(3, 9, 0, true), 1);
        Check.due("until of kind 3", x.until(4, 9, 0, true), 1);
        Check.due("kind 0 goes as before", x.run(1, 99), 1);
        Check.due("kind 1 goes as before", x.run(2, 99), 2);
    }

    private static void untilFull() {
        Check.about("Promise 4: or it has 7");
        PerformRanges x = ofEachKind();
        for (int statement = 3; statement <= 4; statement++) {
            for (int number = 1; number <= 7; number++) {
                Check.due("until", x.until(statement, number, 2, false), number);
            }
            Check.due("the eighth", x.until(statement, 0, 0, true), NONE);
            Check.due("the eighth once more", x.until(statement, 0, 0, true), NONE);
        }
        for (int level = 1; level <= 7; level++) {
            x.vary(4, level, level, level < 7 ? 2 : 0, 1);
        }
        Check.due("the seventh condition is level 7's still", x.run(4, 99), 3);
        x.put(1, 2);
        Check.due("the first condition of kind 2 is so still", x.run(3, 99), 1);
    }

    private static void untilRefusedFirst() {
        Check.about("Promise 4: NONE, and the first one's word is still to come");
        PerformRanges x = ofEachKind();
        x.until(3, 16, 0, true);
        x.until(3, 0, 0, false);
        Check.due("asked behind", x.run(3, 99), 1);
    }

    private static void varyNextLevel() {
        Check.about("Promise 5: one more than it had levels (level is that)");
        PerformRanges x = ofEachKind();
        for (int level = 1; level <= 7; level++) {
            Check.due("vary(4, " + level + ", ..)", x.vary(4, level, level, 0, 1), level);
        }
    }

    private static void varyAnew() {
        Check.about("Promise 5: or a level told anew: how many it has");
        PerformRanges x = ofEachKind();
        for (int level = 1; level <= 7; level++) {
            x.vary(4, level, level, 90, 1);
            x.until(4, level, 1, false);
        }
        for (int level = 1; level <= 7; level++) {
            Check.due("vary(4, " + level + ", ..), anew", x.vary(4, level, level, level - 7, 0), 7);
        }
        x.run(4, 0);
        for (int level = 1; level <= 7; level++) {
            Check.due("get(" + level + ")", x.get(level), level - 7);
        }
    }

    private static void varyNoStatement() {
        Check.about("Promise 5: NONE when there is no such statement");
        PerformRanges x = ofEachKind();
        int[] none = {0, -1, 5, 60, 61, LEAST, GREATEST};
        for (int statement : none) {
            Check.due("vary(" + statement + ", 1, ..)", x.vary(statement, 1, 0, 0, 0), NONE);
        }
    }

    private static void varyNoLevel() {
        Check.about("Promise 5: NONE when there is no such .. level");
        PerformRanges x = ofEachKind();
        for (int levels = 0; levels <= 7; levels++) {
            int[] none = {0, -1, levels + 2, 8, LEAST, GREATEST};
            for (int level : none) {
                Check.due("vary(4, " + level + ", ..)", x.vary(4, level, 0, 0, 0), NONE);
            }
            Check.due("the next level", x.vary(4, levels + 1, 1, 0, 1), levels < 7 ? levels + 1 : NONE);
        }
        Check.due("level 7 anew", x.vary(4, 7, 1, 0, 1), 7);
    }

    private static void varyNoCell() {
        Check.about("Promise 5: NONE when there is no such .. cell");
        PerformRanges x = ofEachKind();
        x.until(4, 1, 4, true);
        for (int cell : NO_CELLS) {
            Check.due("vary(4, 1, " + cell + ", ..)", x.vary(4, 1, cell, 0, 1), NONE);
        }
        Check.due("it has no level", x.run(4, 99), NONE);
        Check.due("vary(4, 1, 1, ..)", x.vary(4, 1, 1, 1, 1), 1);
        for (int cell : NO_CELLS) {
            Check.due("vary(4, 1, " + cell + ", ..), anew", x.vary(4, 1, cell, 0, 9), NONE);
        }
        Check.due("level 1 as it was told", x.run(4, 99), 3);
        Check.due("vary(4, 2, 0, ..)", x.vary(4, 2, 0, 0, 0), 2);
        Check.due("vary(4, 3, 15, ..)", x.vary(4, 3, 15, 0, 0), 3);
    }

    private static void varyOtherKind() {
        Check.about("Promise 5: or it is of another kind");
        PerformRanges x = ofEachKind();
        for (int statement = 1; statement <= 4; statement++) {
            int due = statement == 4 ? 1 : NONE;
            Check.due("vary(" + statement + ", 1, ..)", x.vary(statement, 1, 0, 50, 0), due);
        }
        x.until(3, 0, 2, true);
        Check.due("until goes as before", x.run(3, 99), 2);
    }

    private static void goToToItsEnd() {
        Check.about("Promise 6: behind its doing (0: to its end)");
        PerformRanges x = Check.with(Check.adds(0, 1), 0);
        x.perform(1, 2, 0, 0);
        x.goTo(1, 1);
        Check.due("run(1, 9)", x.run(1, 9), 9);
        Check.due("get(0)", x.get(0), 9);
        x.goTo(1, 0);
        Check.due("run(1, 9)", x.run(1, 9), 2);
    }

    private static void goToWhereItWentBefore() {
        Check.about("Promise 6: where it went before");
        PerformRanges x = Check.with(0, 0);
        Check.due("goTo(1, 60)", x.goTo(1, 60), 0);
        Check.due("goTo(1, 1)", x.goTo(1, 1), 60);
        Check.due("goTo(1, 1)", x.goTo(1, 1), 1);
        Check.due("goTo(2, 2)", x.goTo(2, 2), 0);
        Check.due("goTo(1, 0)", x.goTo(1, 0), 1);
        Check.due("goTo(1, 0)", x.goTo(1, 0), 0);
        Check.due("goTo(2, 0)", x.goTo(2, 0), 2);
    }

    private static void goToParagraphIsNone() {
        Check.about("Promise 6: NONE when paragraph is none");
        PerformRanges x = Check.with(0, 0);
        int[] none = {0, -1, 3, 60, 61, LEAST, GREATEST};
        for (int paragraph : none) {
            Check.due("goTo(" + paragraph + ", 1)", x.goTo(paragraph, 1), NONE);
        }
        x.paragraph(0);
        Check.due("goTo(3, 1), which is new", x.goTo(3, 1), 0);
        for (int number = 4; number <= 60; number++) {
            x.paragraph(0);
        }
        Check.due("goTo(60, 60)", x.goTo(60, 60), 0);
        Check.due("goTo(61, 1)", x.goTo(61, 1), NONE);
    }

    private static void goToOutOfBounds() {
        Check.about("Promise 6: or to is below 0 or above 60");
        PerformRanges x = Check.with(0);
        x.goTo(1, 7);
        int[] out = {-1, 61, 62, LEAST, GREATEST};
        for (int to : out) {
            Check.due("goTo(1, " + to + ")", x.goTo(1, to), NONE);
        }
        Check.due("goTo(1, 0), after those", x.goTo(1, 0), 7);
        Check.due("goTo(1, 60)", x.goTo(1, 60), 0);
        Check.due("goTo(1, 2), to none as yet", x.goTo(1, 2), 60);
    }

    private static void runOnAnEmptyPile() {
        Check.about("Promise 7: A statement is performed alone, on an empty pile");
        PerformRanges x = Check.with(Check.performs(1));
        x.perform(1, 1, 0, 0);
        for (int i = 0; i < 3; i++) {
            Check.due("run(1, 98)", x.run(1, 98), 98);
            Check.due("count(1)", x.count(1), 99);
        }
        x.run(1, 0);
        Check.due("count(1)", x.count(1), 1);
    }

    private static void runWithCellsAsTheyAre() {
        Check.about("Promise 7: with cells as they are");
        PerformRanges x = ofEachKind();
        x.put(0, 41);
        x.run(1, 9);
        Check.due("get(0)", x.get(0), 42);
        x.run(1, 9);
        Check.due("get(0)", x.get(0), 43);
    }

    /** Statements 1 (kind 0), 2 (kind 2, not whole) and 3 (kind 3, not whole), and a run of the first. */
    private static PerformRanges withOneRun() {
        PerformRanges x = Check.with(Check.adds(0, 1), 0);
        x.perform(2, 1, 0, 0);
        x.perform(1, 1, 2, 0);
        x.perform(1, 1, 3, 0);
        Check.due("run(1, 9)", x.run(1, 9), 1);
        return x;
    }

    private static void refused(PerformRanges x, int statement, long steps) {
        String before = Check.stateOf(x);
        Check.due("run(" + statement + ", " + steps + ")", x.run(statement, steps), NONE);
        Check.due("run(" + statement + ", " + steps + ") changes", Check.stateOf(x), before);
    }

    private static void runNoStatement() {
        Check.about("Promise 7: NONE, doing nothing, when there is no such statement");
        PerformRanges x = withOneRun();
        int[] none = {0, -1, 4, 60, 61, LEAST, GREATEST};
        for (int statement : none) {
            refused(x, statement, 9);
        }
    }

    private static void runKind2NotWhole() {
        Check.about("Promise 7: of kind 2 it must have a condition");
        PerformRanges x = withOneRun();
        refused(x, 2, 9);
        x.until(2, 0, 3, true);
        Check.due("with one", x.run(2, 9), 3);
    }

    private static void runKind3NotWhole() {
        Check.about("Promise 7: of kind 3 a level, and as many conditions at least");
        PerformRanges x = withOneRun();
        refused(x, 3, 9);
        x.until(3, 1, 2, true);
        refused(x, 3, 9);
        x.vary(3, 1, 1, 0, 1);
        Check.due("1 level, 1 condition", x.run(3, 99), 2);
        x.until(3, 2, 3, true);
        Check.due("1 level, 2 conditions", x.run(3, 99), 2);
        x.vary(3, 2, 2, 0, 1);
        Check.due("2 levels, 2 conditions", x.run(3, 99), 6);
    }

    private static void runSevenLevelsNotWhole() {
        Check.about("Promise 7: and as many conditions at least, of seven levels");
        PerformRanges x = withOneRun();
        for (int level = 1; level <= 7; level++) {
            x.vary(3, level, level, 0, 1);
        }
        for (int condition = 1; condition <= 7; condition++) {
            refused(x, 3, 9);
            x.until(3, condition, 1, true);
        }
        Check.due("7 levels, 7 conditions", x.run(3, 99), 1);
    }

    private static void runSteps() {
        Check.about("Promise 7: or steps is not 0 .. 4096");
        PerformRanges x = withOneRun();
        long[] not = {-1, 4097, 1L << 32, (1L << 32) + 5, Long.MIN_VALUE, Long.MAX_VALUE};
        for (long steps : not) {
            refused(x, 1, steps);
        }
        Check.due("run(1, 0)", x.run(1, 0), 0);
        Check.due("count(0)", x.count(0), 1);
        Check.due("run(1, 4096)", x.run(1, 4096), 1);
        Check.due("count(0)", x.count(0), 2);
    }

    private static void plainAsRun() {
        Check.about("Promise 8: As run");
        int[] steps = {0, 1, 2, 3, 4096};
        for (int most : steps) {
            PerformRanges x = ofEachKind();
            x.until(3, 0, 9, true);
            x.vary(4, 1, 1, 0, 1);
            x.until(4, 1, 4, true);
            for (int statement = 1; statement <= 4; statement++) {
                int answer = x.plain(statement, most);
                Check.due("plain, again", x.plain(statement, most), answer);
                Check.due("run(" + statement + ", " + most + ")", x.run(statement, most), answer);
            }
        }
    }

    private static void plainAheadOfAll() {
        Check.about("Promise 8: nothing is changed by it, ahead of all runs");
        PerformRanges x = Check.with(Check.adds(0, 1), Check.performs(1));
        x.perform(1, 2, 0, 0);
        String before = Check.stateOf(x);
        Check.due("plain(1, 4096)", x.plain(1, 4096), 200);
        Check.due("the state", Check.stateOf(x), before);
        Check.due("count(0)", x.count(0), NONE);
        Check.due("count(2)", x.count(2), 0);
        Check.due("order(0)", x.order(0), 0);
    }

    private static void plainRefused() {
        Check.about("Promise 8: As run, NONE");
        PerformRanges x = withOneRun();
        String before = Check.stateOf(x);
        int[] none = {0, -1, 2, 3, 4, 61, LEAST, GREATEST};
        for (int statement : none) {
            Check.due("plain(" + statement + ", 9)", x.plain(statement, 9), NONE);
        }
        long[] not = {-1, 4097, 1L << 32, Long.MIN_VALUE, Long.MAX_VALUE};
        for (long steps : not) {
            Check.due("plain(1, " + steps + ")", x.plain(1, steps), NONE);
        }
        Check.due("the state", Check.stateOf(x), before);
        Check.due("plain(1, 0)", x.plain(1, 0), 0);
        Check.due("plain(1, 4096)", x.plain(1, 4096), 1);
        Check.due("the state", Check.stateOf(x), before);
    }

    private static void plainChangesNothing() {
        Check.about("Promise 8: but nothing is changed by it, however it ends");
        PerformRanges x = Check.with(Check.adds(0, 1), Check.performs(1), Check.performs(9), Check.adds(1, 1));
        x.perform(1, 2, 0, 0);
        x.perform(3, 3, 0, 0);
        x.perform(4, 3, 0, 0);
        x.perform(4, 4, 3, 0);
        x.vary(4, 1, 5, 7, 1);
        x.until(4, 1, 4, true);
        x.run(1, 3);
        String before = Check.stateOf(x);
        int[] answers = {200, 1, 1, 4};
        for (int statement = 1; statement <= 4; statement++) {
            Check.due("plain(" + statement + ", 4096)", x.plain(statement, 4096), answers[statement - 1]);
            Check.due("the state", Check.stateOf(x), before);
        }
        Check.due("plain(1, 5)", x.plain(1, 5), 5);
        Check.due("the state", Check.stateOf(x), before);
    }

    private static void orderFrom0On() {
        Check.about("Promise 9: The i-th paragraph of the latest run, from 0 on");
        PerformRanges x = Check.with(0, 0, 0);
        x.perform(2, 3, 1, 2);
        x.run(1, 9);
        int[] due = {2, 3, 2, 3};
        for (int i = 0; i < 4; i++) {
            Check.due("order(" + i + ")", x.order(i), due[i]);
        }
    }

    private static void orderWhenThereIsNone() {
        Check.about("Promise 9: 0 when there is none");
        PerformRanges x = Check.with(0, 0, 0);
        int[] all = {-1, 0, 1, 4095, 4096, LEAST, GREATEST};
        for (int i : all) {
            Check.due("order(" + i + "), ahead of all runs", x.order(i), 0);
        }
        x.perform(3, 3, 0, 0);
        x.run(1, 9);
        for (int i : all) {
            Check.due("order(" + i + ")", x.order(i), i == 0 ? 3 : 0);
        }
    }

    private static void orderOfTheLatestRun() {
        Check.about("Promise 9: of the latest run");
        PerformRanges x = Check.with(0, 0, 0);
        x.perform(1, 3, 0, 0);
        x.perform(3, 3, 0, 0);
        x.perform(1, 1, 1, 0);
        x.run(1, 9);
        Check.due("the order", Check.orderOf(x), "1 2 3");
        x.run(2, 9);
        Check.due("the order", Check.orderOf(x), "3");
        Check.due("order(2), of the run before", x.order(2), 0);
        x.run(1, 4097);
        Check.due("the order, behind a refused run", Check.orderOf(x), "3");
        x.run(3, 9);
        Check.due("the order of a run of none", Check.orderOf(x), "");
        x.run(1, 2);
        Check.due("the order, as far as the steps went", Check.orderOf(x), "1 2");
    }

    private static void orderOfTheLongestRun() {
        Check.about("Promise 9: from 0 on, to the 4096th");
        PerformRanges x = Check.with(0, 0);
        x.perform(1, 2, 1, 4096);
        x.run(1, 4096);
        Check.due("order(0)", x.order(0), 1);
        Check.due("order(4094)", x.order(4094), 1);
        Check.due("order(4095)", x.order(4095), 2);
        Check.due("order(4096)", x.order(4096), 0);
    }

    private static void activeOnThePile() {
        Check.about("Promise 10: How many statements that end at a paragraph were on the pile");
        PerformRanges x = Check.with(Check.performs(2), Check.performs(3), 0, 0);
        x.perform(1, 4, 0, 0);
        x.perform(2, 3, 0, 0);
        x.perform(3, 4, 0, 0);
        int[][] due = {{0, 0, 0, 1}, {0, 0, 1, 1}, {0, 0, 1, 2}};
        for (int steps = 0; steps < 3; steps++) {
            x.run(1, steps);
            for (int paragraph = 1; paragraph <= 4; paragraph++) {
                Check.due("active(" + paragraph + "), " + steps, x.active(paragraph), due[steps][paragraph - 1]);
            }
        }
    }

    private static void activeWhenTheLatestRunEnded() {
        Check.about("Promise 10: when the latest run ended");
        PerformRanges x = Check.with(Check.performs(1));
        Check.due("active(1), ahead of all runs", x.active(1), 0);
        x.perform(1, 1, 0, 0);
        x.run(1, 4096);
        Check.due("active(1), deep", x.active(1), 100);
        x.run(1, -1);
        Check.due("active(1), behind a refused run", x.active(1), 100);
        x.perform(1, 1, 1, 0);
        x.paragraph(0);
        Check.due("active(1), behind what was told", x.active(1), 100);
        Check.due("active(2), which is new", x.active(2), 0);
        x.run(2, 9);
        Check.due("active(1), over", x.active(1), 0);
    }

    private static void activeNoParagraph() {
        Check.about("Promise 10: NONE when there is no such paragraph");
        PerformRanges x = Check.with(0, 0);
        int[] none = {0, -1, 3, 60, 61, LEAST, GREATEST};
        for (int paragraph : none) {
            Check.due("active(" + paragraph + ")", x.active(paragraph), NONE);
        }
        for (int number = 3; number <= 60; number++) {
            x.paragraph(0);
        }
        Check.due("active(60)", x.active(60), 0);
        Check.due("active(61)", x.active(61), NONE);
    }

    private static void getCell() {
        Check.about("Promise 11: A cell");
        PerformRanges x = new PerformRanges();
        x.put(0, Long.MIN_VALUE);
        x.put(15, Long.MAX_VALUE);
        Check.due("get(0)", x.get(0), Long.MIN_VALUE);
        Check.due("get(15)", x.get(15), Long.MAX_VALUE);
        Check.due("get(1)", x.get(1), 0);
        Check.due("get(14)", x.get(14), 0);
    }

    private static void getNoCell() {
        Check.about("Promise 11: IllegalArgumentException when there is none such");
        PerformRanges x = new PerformRanges();
        for (int cell : NO_CELLS) {
            Check.due("get(" + cell + ")", thrown(x, cell, false), "IllegalArgumentException");
        }
        Check.due("get(0)", thrown(x, 0, false), "nothing");
        Check.due("get(15)", thrown(x, 15, false), "nothing");
    }

    private static void putWhatItWas() {
        Check.about("Promise 12: A cell becomes v: what it was");
        PerformRanges x = new PerformRanges();
        for (int cell = 0; cell <= 15; cell += 15) {
            Check.due("put(" + cell + ", the greatest)", x.put(cell, Long.MAX_VALUE), 0);
            Check.due("put(" + cell + ", the least)", x.put(cell, Long.MIN_VALUE), Long.MAX_VALUE);
            Check.due("put(" + cell + ", -1)", x.put(cell, -1), Long.MIN_VALUE);
            Check.due("get(" + cell + ")", x.get(cell), -1);
        }
        Check.due("get(1)", x.get(1), 0);
        Check.due("get(14)", x.get(14), 0);
    }

    private static void putNoCell() {
        Check.about("Promise 12: IllegalArgumentException when there is none such");
        PerformRanges x = withOneRun();
        String before = Check.stateOf(x);
        for (int cell : NO_CELLS) {
            Check.due("put(" + cell + ", 7)", thrown(x, cell, true), "IllegalArgumentException");
        }
        Check.due("the state", Check.stateOf(x), before);
        Check.due("put(0, 7)", thrown(x, 0, true), "nothing");
        Check.due("put(15, 7)", thrown(x, 15, true), "nothing");
    }

    private static String thrown(PerformRanges x, int cell, boolean put) {
        try {
            if (put) {
                x.put(cell, 7);
            } else {
                x.get(cell);
            }
            return "nothing";
        } catch (RuntimeException e) {
            return e.getClass().getSimpleName();
        }
    }

    private static void countAheadOfAll() {
        Check.about("Promise 13: NONE ahead of all");
        PerformRanges x = Check.with(0);
        Check.due("count(0)", x.count(0), NONE);
        x.perform(1, 1, 2, 0);
        x.run(1, 9);
        Check.due("count(0), behind a refused run", x.count(0), NONE);
        Check.due("count(1)", x.count(1), 0);
        Check.due("count(2)", x.count(2), 0);
    }

    private static void countHowItEnded() {
        Check.about("Promise 13: how the latest run ended (0 it was over, 1 steps, 2 it fell out, 3 lost, 4 deep)");
        PerformRanges x = Check.with(0, Check.goes(0), Check.performs(4), 0);
        x.perform(1, 1, 0, 0);
        x.perform(4, 1, 0, 0);
        x.perform(2, 2, 0, 0);
        x.perform(3, 3, 0, 0);
        Check.due("over", x.run(1, 9) * 10 + x.count(0), 10);
        Check.due("steps", x.run(1, 0) * 10 + x.count(0), 1);
        Check.due("fell out", x.run(2, 9) * 10 + x.count(0), 12);
        Check.due("lost", x.run(3, 9) * 10 + x.count(0), 13);
        Check.due("deep", x.run(4, 999) * 10 + x.count(0), 1004);
        Check.due("a refused run", x.run(5, 9) * 10 + x.count(0), -6);
        Check.due("over", x.run(1, 9) * 10 + x.count(0), 10);
    }

    private static void countOnThePileThen() {
        Check.about("Promise 13: 1 how many were on the pile then");
        PerformRanges x = Check.with(Check.performs(1));
        x.perform(1, 1, 0, 0);
        x.perform(1, 1, 1, 0);
        int[] steps = {0, 1, 98, 99, 100, 4096};
        int[] due = {1, 2, 99, 100, 100, 100};
        for (int i = 0; i < steps.length; i++) {
            x.run(1, steps[i]);
            Check.due("count(1), " + steps[i] + " steps", x.count(1), due[i]);
        }
        x.run(1, 4097);
        Check.due("count(1), behind a refused run", x.count(1), 100);
        x.run(2, 9);
        Check.due("count(1), over", x.count(1), 0);
    }

    private static void countMostInAllRuns() {
        Check.about("Promise 13: 2 the most that ever were on it, in all runs");
        PerformRanges x = Check.with(Check.performs(1));
        x.perform(1, 1, 0, 0);
        int[] steps = {0, 4, 2, 99, 0, 4096};
        int[] due = {1, 5, 5, 100, 100, 100};
        Check.due("count(2), ahead of all", x.count(2), 0);
        for (int i = 0; i < steps.length; i++) {
            x.run(1, steps[i]);
            Check.due("count(2), " + steps[i] + " steps", x.count(2), due[i]);
        }
    }

    private static void countParagraphsAndStatements() {
        Check.about("Promise 13: 3 paragraphs, 4 statements");
        PerformRanges x = new PerformRanges();
        for (int number = 1; number <= 62; number++) {
            x.paragraph(0);
            Check.due("count(3)", x.count(3), Math.min(number, 60));
        }
        for (int number = 1; number <= 62; number++) {
            x.perform(1, 1, 0, 0);
            Check.due("count(4)", x.count(4), Math.min(number, 60));
        }
    }

    private static void countOthers() {
        Check.about("Promise 13: NONE for others");
        PerformRanges x = withOneRun();
        int[] others = {-1, 5, 6, LEAST, GREATEST};
        for (int what : others) {
            Check.due("count(" + what + ")", x.count(what), NONE);
        }
    }
}
