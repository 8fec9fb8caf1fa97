/**
 * The boundary cases that the document's Terms name: a test for each sentence or part of one, which
 * is told about by its own words.
 */
public final class TermsBoundaryTest {
    private static final boolean FIRST = true;
    private static final boolean BEHIND = false;
    private static final int OVER = 0;
    private static final int STEPS = 1;
    private static final int FELL_OUT = 2;
    private static final int LOST = 3;
    private static final int DEEP = 4;

    /** The greatest number whose rest by 8 is 4; less 1 .. 4 it is the greatest with rest 3 .. 0. */
    private static final int GREATEST_DOES = Integer.MAX_VALUE - 3;

    public static void main(String[] args) {
        cells();
        paragraphs();
        statementsAndConditions();
        performing();
        varyingAskedFirst();
        aThousandTimes();
        varyingAskedBehind();
        ends();
        endsOfRuns();
        Check.finish();
    }

    private static void cells() {
        cellsAreSixteen();
        numbersOf64Bits();
        zeroAtFirst();
        sumsOfDoingsGoRound();
        sumsOfStepsGoRound();
    }

    private static void paragraphs() {
        paragraphsAtMost60();
        doesNothing();
        getsMore();
        statementIsPerformed();
        goesToParagraph();
        cellAboveZero();
        oneLessAndGone();
        toldToGo();
        notToldToGo();
    }

    private static void statementsAndConditions() {
        statementsAtMost60();
        needNotStandBehind();
        entered();
        atLeast();
        firstConditionCounts();
        kthBelongsToLevelK();
        firstWordCounts();
    }

    private static void performing() {
        runIsOver();
        paragraphGoesOn();
        once();
        soManyTimes();
        numberIsTakenAtTheBeginning();
        untilAskedFirst();
        untilAskedBehind();
    }

    private static void varyingAskedFirst() {
        firstValuesAtTheBeginning();
        firstValuesOfItsCellsAlone();
        firstValuesFromLevel1On();
        noneHolds();
        level1Holds();
        everyOtherLevelHolds();
        heldAtTheBeginning();
        stepThenFirstValues();
        stepAheadOfAsking();
    }

    private static void aThousandTimes() {
        aThousandAtTheBeginning();
        aThousandBehindATurn();
        aThousandBehindOneTurn();
        lessThanAThousand();
    }

    private static void varyingAskedBehind() {
        atFirstItGoes();
        lastLevelThatDoesNotHold();
        allHold();
    }

    private static void ends() {
        topEndsThere();
        whateverLiesBelow();
        behindTheLastOne();
        behindThe60th();
        pileStaysAsItIs();
        activeRangeIsComeBackTo();
    }

    private static void endsOfRuns() {
        paragraphThatIsNone();
        statementThatIsNone();
        statementThatIsNotWhole();
        aHundredOnThePile();
        turnsOfTheHundredth();
        aHundredTakenOff();
        asManyParagraphsAsSteps();
        mostSteps();
    }

    /** A new object whose statement 1 performs all these paragraphs once. */
    private static PerformRanges once(int... doings) {
        PerformRanges x = Check.with(doings);
        Check.due("perform", x.perform(1, doings.length, 0, 0), 1);
        return x;
    }

    /** A new object whose statement 1, of a kind, performs its one paragraph. */
    private static PerformRanges alone(int does, int kind, int times) {
        PerformRanges x = Check.with(does);
        Check.due("perform", x.perform(1, 1, kind, times), 1);
        return x;
    }

    private static void runs(PerformRanges x, int statement, int how, int onPile, String order) {
        int ran = x.run(statement, 4096);
        Check.due("run(" + statement + ", 4096)", ran, order.isEmpty() ? 0 : order.split(" ").length);
        ended(x, how, onPile);
        Check.due("the order", Check.orderOf(x), order);
    }

    private static void ended(PerformRanges x, int how, int onPile) {
        Check.due("count(0)", x.count(0), how);
        Check.due("count(1)", x.count(1), onPile);
    }

    private static void cellsAreSixteen() {
        Check.about("Terms: CELLS 0 .. 15");
        PerformRanges x = once(Check.adds(0, 5), Check.adds(15, 7));
        runs(x, 1, OVER, 0, "1 2");
        for (int cell = 0; cell <= 15; cell++) {
            Check.due("get(" + cell + ")", x.get(cell), cell == 0 ? 5 : cell == 15 ? 7 : 0);
        }
    }

    private static void numbersOf64Bits() {
        Check.about("Terms: hold numbers of 64 bits");
        PerformRanges x = once(Check.adds(0, 1));
        long[] numbers = {Long.MIN_VALUE, -1, Integer.MAX_VALUE, 0xffffffffL, Long.MAX_VALUE - 1};
        for (long number : numbers) {
            x.put(0, number);
            Check.due("get(0)", x.get(0), number);
            x.run(1, 1);
            Check.due("get(0), and 1 more", x.get(0), number + 1);
        }
    }

    private static void zeroAtFirst() {
        Check.about("Terms: 0 at first");
        PerformRanges x = new PerformRanges();
        for (int cell = 0; cell <= 15; cell++) {
            Check.due("get(" + cell + ")", x.get(cell), 0);
        }
    }

    private static void sumsOfDoingsGoRound() {
        Check.about("Terms: sums go round, by a doing");
        PerformRanges x = once(Check.adds(3, 2));
        x.put(3, Long.MAX_VALUE);
        x.run(1, 9);
        Check.due("get(3)", x.get(3), Long.MIN_VALUE + 1);
    }

    private static void sumsOfStepsGoRound() {
        Check.about("Terms: sums go round, by a step");
        long[] firsts = {Long.MAX_VALUE, Long.MIN_VALUE, Long.MIN_VALUE};
        long[] steps = {1, -1, Long.MIN_VALUE};
        long[] sums = {Long.MIN_VALUE, Long.MAX_VALUE, 0};
        for (int i = 0; i < 3; i++) {
            PerformRanges x = alone(0, 3, 0);
            x.vary(1, 1, 1, firsts[i], steps[i]);
            x.until(1, 2, 1, FIRST);
            x.run(1, 1);
            Check.due("get(1)", x.get(1), sums[i]);
        }
    }

    private static void paragraphsAtMost60() {
        Check.about("Terms: PARAGRAPHS are numbered from 1 on, at most 60");
        PerformRanges x = new PerformRanges();
        for (int number = 1; number <= 60; number++) {
            Check.due("paragraph", x.paragraph(Check.adds(0, number)), number);
        }
        Check.due("the 61st", x.paragraph(Check.adds(0, 1000)), PerformRanges.NONE);
        x.perform(1, 60, 0, 0);
        Check.due("from the first to the last", x.run(1, 4096), 60);
        ended(x, OVER, 0);
        Check.due("order(0)", x.order(0), 1);
        Check.due("order(59)", x.order(59), 60);
        Check.due("get(0)", x.get(0), 1830);
    }

    private static void doesNothing() {
        Check.about("Terms: does modulo 8 is 0 nothing");
        int[] nothings = {0, 8, 8 * 15, 128, GREATEST_DOES - 4};
        PerformRanges x = once(nothings);
        for (int cell = 0; cell <= 15; cell++) {
            x.put(cell, 1);
        }
        runs(x, 1, OVER, 0, "1 2 3 4 5");
        for (int cell = 0; cell <= 15; cell++) {
            Check.due("get(" + cell + ")", x.get(cell), 1);
        }
    }

    private static void getsMore() {
        Check.about("Terms: 1 cell (does / 8 modulo 16) gets does / 128 more");
        PerformRanges x = once(1, 1 + 8 * 15, 1 + 8 * 16, 1 + 8 * 31, GREATEST_DOES - 3);
        long[] first = {0, 0, 1, 1, 1};
        long[] last = {0, 0, 0, 1, 16777216};
        for (int steps = 1; steps <= 5; steps++) {
            x.put(0, 0);
            x.put(15, 0);
            x.run(1, steps);
            Check.due("get(0), " + steps + " steps", x.get(0), first[steps - 1]);
            Check.due("get(15), " + steps + " steps", x.get(15), last[steps - 1]);
        }
    }

    private static void statementIsPerformed() {
        Check.about("Terms: 2 statement does / 8 is performed");
        PerformRanges x = Check.with(0, Check.performs(1), Check.performs(60), Check.performs(61), Check.performs(0),
                GREATEST_DOES - 2);
        x.perform(1, 1, 1, 2);
        for (int paragraph = 2; paragraph <= 6; paragraph++) {
            x.perform(paragraph, paragraph, 0, 0);
        }
        runs(x, 2, OVER, 0, "2 1 1");
        runs(x, 3, LOST, 1, "3");
        runs(x, 4, LOST, 1, "4");
        runs(x, 5, LOST, 1, "5");
        runs(x, 6, LOST, 1, "6");
        for (int number = 7; number <= 60; number++) {
            x.perform(1, 1, 1, number == 60 ? 3 : 1);
        }
        runs(x, 3, OVER, 0, "3 1 1 1");
        runs(x, 4, LOST, 1, "4");
    }

    private static void goesToParagraph() {
        Check.about("Terms: 3 it goes to paragraph does / 8");
        PerformRanges x = Check.with(0, Check.goes(1), Check.goes(6), Check.goes(0), GREATEST_DOES - 1);
        for (int paragraph = 2; paragraph <= 5; paragraph++) {
            x.perform(paragraph, 1, 0, 0);
        }
        runs(x, 1, OVER, 0, "2 1");
        runs(x, 2, LOST, 1, "3");
        runs(x, 3, LOST, 1, "4");
        runs(x, 4, LOST, 1, "5");
        x.paragraph(Check.goes(1));
        runs(x, 2, OVER, 0, "3 6 1");
        x.paragraph(Check.goes(7));
        x.perform(7, 7, 0, 0);
        Check.due("to itself", x.run(5, 50), 50);
        ended(x, STEPS, 1);
    }

    private static void cellAboveZero() {
        Check.about("Terms: 4 if that cell (as by 1) is above 0");
        long[] above = {1, 2, Long.MAX_VALUE};
        long[] notAbove = {0, -1, Long.MIN_VALUE};
        for (int cell = 0; cell <= 15; cell += 15) {
            PerformRanges x = once(Check.countsDown(cell, 3), 0, 0);
            for (long number : above) {
                x.put(cell, number);
                runs(x, 1, OVER, 0, "1 3");
                Check.due("get(" + cell + ")", x.get(cell), number - 1);
            }
            for (long number : notAbove) {
                x.put(cell, number);
                runs(x, 1, OVER, 0, "1 2 3");
                Check.due("get(" + cell + ")", x.get(cell), number);
            }
        }
    }

    private static void oneLessAndGone() {
        Check.about("Terms: it gets one less, and it goes to paragraph does / 128");
        int[] nowhere = {Check.countsDown(15, 0), Check.countsDown(15, 2), GREATEST_DOES};
        for (int does : nowhere) {
            PerformRanges x = alone(does, 0, 0);
            runs(x, 1, OVER, 0, "1");
            x.put(15, 8);
            runs(x, 1, LOST, 1, "1");
            Check.due("get(15)", x.get(15), 7);
        }
        PerformRanges x = alone(Check.countsDown(15, 1), 0, 0);
        x.put(15, 3);
        runs(x, 1, OVER, 0, "1 1 1 1");
    }

    private static void toldToGo() {
        Check.about("Terms: Then, if it was told so, it GOES TO a paragraph");
        PerformRanges x = once(Check.adds(0, 1), Check.goes(4), Check.countsDown(1, 4), 0);
        x.goTo(1, 3);
        x.goTo(2, 1);
        x.goTo(3, 2);
        runs(x, 1, OVER, 0, "1 3 2 4");
        Check.due("get(0)", x.get(0), 1);
        x.put(1, 1);
        runs(x, 1, OVER, 0, "1 3 4");
    }

    private static void notToldToGo() {
        Check.about("Terms: else it is at its END");
        PerformRanges x = once(0, 0);
        x.goTo(2, 1);
        Check.due("run(1, 9)", x.run(1, 9), 9);
        x.goTo(2, 0);
        runs(x, 1, OVER, 0, "1 2");
    }

    private static void statementsAtMost60() {
        Check.about("Terms: STATEMENTS are numbered from 1 on, at most 60");
        PerformRanges x = Check.with(0);
        for (int number = 1; number <= 60; number++) {
            Check.due("perform", x.perform(1, 1, 1, number), number);
        }
        Check.due("the 61st", x.perform(1, 1, 1, 99), PerformRanges.NONE);
        Check.due("the first", x.run(1, 99), 1);
        Check.due("the 60th", x.run(60, 99), 60);
    }

    private static void needNotStandBehind() {
        Check.about("Terms: it need not stand behind");
        PerformRanges x = Check.with(0, 0, 0);
        x.perform(3, 1, 0, 0);
        x.perform(2, 2, 0, 0);
        x.goTo(3, 1);
        runs(x, 1, OVER, 0, "3 1");
        runs(x, 2, OVER, 0, "2");
    }

    private static void entered() {
        Check.about("Terms: a RANGE from a paragraph (where it is entered) to one at whose end it is left");
        PerformRanges x = Check.with(0, Check.adds(0, 1), 0);
        x.perform(2, 3, 1, 2);
        runs(x, 1, OVER, 0, "2 3 2 3");
        x.goTo(2, 1);
        Check.due("from ahead of its beginning", x.run(1, 5), 5);
        Check.due("the order", Check.orderOf(x), "2 1 2 1 2");
    }

    private static void atLeast() {
        Check.about("Terms: CONDITIONS (a cell is at least v)");
        long least = Long.MIN_VALUE;
        long greatest = Long.MAX_VALUE;
        long[] cells = {4, 5, 6, -1, least, least, least, least, greatest, greatest, greatest - 1};
        long[] bounds = {5, 5, 5, 0, least, least + 1, 1, greatest, least, greatest, greatest};
        boolean[] holds = {false, true, true, false, true, false, false, false, true, true, false};
        for (int i = 0; i < cells.length; i++) {
            PerformRanges x = alone(0, 2, 0);
            x.until(1, 15, bounds[i], FIRST);
            x.put(15, cells[i]);
            Check.due(cells[i] + " is at least " + bounds[i], x.run(1, 9), holds[i] ? 0 : 9);
        }
    }

    private static void firstConditionCounts() {
        Check.about("Terms: of kind 2 the first one counts");
        PerformRanges x = alone(Check.adds(0, 1), 2, 0);
        x.until(1, 0, 3, FIRST);
        for (int i = 2; i <= 7; i++) {
            x.until(1, 0, i % 2 == 0 ? 1 : 9, FIRST);
        }
        runs(x, 1, OVER, 0, "1 1 1");
    }

    private static void kthBelongsToLevelK() {
        Check.about("Terms: of kind 3 the k-th belongs to level k");
        PerformRanges x = alone(Check.adds(0, 1), 3, 0);
        for (int level = 1; level <= 7; level++) {
            x.until(1, level, level < 6 ? 1 : level - 3, FIRST);
        }
        for (int level = 1; level <= 7; level++) {
            x.vary(1, level, level, 0, 1);
            int[] ran = {1, 1, 1, 1, 1, 3, 12};
            Check.due(level + " levels", x.run(1, 99), ran[level - 1]);
        }
    }

    private static void firstWordCounts() {
        Check.about("Terms: the first one's word counts for all");
        for (int kind = 2; kind <= 3; kind++) {
            for (int first = 0; first <= 1; first++) {
                PerformRanges x = alone(0, kind, 0);
                x.vary(1, 1, 1, 0, 1);
                x.vary(1, 2, 2, 0, 1);
                x.until(1, 1, 0, first == 1);
                x.until(1, 2, 0, first == 0);
                Check.due("kind " + kind + ", " + first, x.run(1, 9), 1 - first);
            }
        }
    }

    private static void runIsOver() {
        Check.about("Terms: else it is taken off, and what performed it goes on (.. a run is over)");
        PerformRanges x = alone(Check.adds(0, 1), 1, 0);
        runs(x, 1, OVER, 0, "");
        Check.due("run(1, 0)", x.run(1, 0), 0);
        ended(x, OVER, 0);
        Check.due("count(2)", x.count(2), 1);
        Check.due("get(0)", x.get(0), 0);
    }

    private static void paragraphGoesOn() {
        Check.about("Terms: a paragraph is at what comes behind its doing");
        PerformRanges x = Check.with(Check.performs(1), 0, 0);
        x.perform(2, 2, 1, 0);
        x.perform(1, 1, 1, 2);
        x.perform(1, 3, 0, 0);
        runs(x, 2, OVER, 0, "1 1");
        runs(x, 3, OVER, 0, "1 2 3");
        x.goTo(1, 3);
        runs(x, 3, OVER, 0, "1 3");
        Check.due("count(2)", x.count(2), 2);
    }

    private static void once() {
        Check.about("Terms: once: at first");
        int[] times = {Integer.MIN_VALUE, 0, 2};
        for (int number : times) {
            runs(alone(0, 0, number), 1, OVER, 0, "1");
        }
    }

    private static void soManyTimes() {
        Check.about("Terms: so many times");
        int[] times = {Integer.MIN_VALUE, -1, 0, 1, 2, 4095, 4096, 4097, Integer.MAX_VALUE};
        int[] ran = {0, 0, 0, 1, 2, 4095, 4096, 4096, 4096};
        for (int i = 0; i < times.length; i++) {
            PerformRanges x = alone(0, 1, times[i]);
            Check.due(times[i] + " times", x.run(1, 4096), ran[i]);
            ended(x, times[i] > 4096 ? STEPS : OVER, times[i] > 4096 ? 1 : 0);
        }
    }

    private static void numberIsTakenAtTheBeginning() {
        Check.about("Terms: the number is taken at the beginning");
        PerformRanges x = Check.with(Check.performs(2), Check.countsDown(1, 1));
        x.perform(1, 2, 0, 0);
        x.perform(2, 2, 1, 2);
        runs(x, 1, OVER, 0, "1 2 2 2");
        x.put(1, 1);
        // By the way out statement 2 lies on the pile twice, and each has its own two turns.
        runs(x, 1, OVER, 0, "1 2 1 2 2 2 2 2");
    }

    private static void untilAskedFirst() {
        Check.about("Terms: asked first: if the condition doesn't hold");
        PerformRanges x = alone(Check.adds(0, 1), 2, 0);
        x.until(1, 0, 2, FIRST);
        runs(x, 1, OVER, 0, "1 1");
        runs(x, 1, OVER, 0, "");
    }

    private static void untilAskedBehind() {
        Check.about("Terms: asked behind: at first, then likewise");
        PerformRanges x = alone(Check.adds(0, 1), 2, 0);
        x.until(1, 0, 2, BEHIND);
        runs(x, 1, OVER, 0, "1 1");
        runs(x, 1, OVER, 0, "1");
    }

    /** Levels 1 .. bounds.length vary cells of their numbers from 0 by 1 until they are at bounds. */
    private static PerformRanges varying(boolean first, long... bounds) {
        PerformRanges x = alone(Check.adds(0, 1), 3, 0);
        for (int level = 1; level <= bounds.length; level++) {
            x.vary(1, level, level, 0, 1);
            x.until(1, level, bounds[level - 1], first);
        }
        return x;
    }

    private static void cellsAre(PerformRanges x, long... values) {
        for (int cell = 1; cell <= values.length; cell++) {
            Check.due("get(" + cell + ")", x.get(cell), values[cell - 1]);
        }
    }

    private static void firstValuesAtTheBeginning() {
        Check.about("Terms: Varying: at the beginning all its cells get their first values");
        for (int first = 0; first <= 1; first++) {
            PerformRanges x = alone(0, 3, 0);
            for (int level = 1; level <= 7; level++) {
                x.vary(1, level, level, level + 10, 1);
                x.until(1, 9, first, first == 1);
            }
            x.put(9, first);
            x.run(1, 0);
            ended(x, first == 1 ? OVER : STEPS, 1 - first);
            cellsAre(x, 11, 12, 13, 14, 15, 16, 17);
        }
    }

    private static void firstValuesOfItsCellsAlone() {
        Check.about("Terms: Varying: at the beginning all its cells get their first values, and no other");
        for (int levels = 1; levels <= 7; levels++) {
            PerformRanges x = alone(0, 3, 0);
            for (int cell = 0; cell <= 15; cell++) {
                x.put(cell, 50);
            }
            for (int level = 1; level <= 7; level++) {
                x.until(1, level, 99, FIRST);
            }
            for (int level = 1; level <= levels; level++) {
                x.vary(1, level, level, -9, 1);
            }
            x.run(1, 0);
            for (int cell = 0; cell <= 15; cell++) {
                boolean varied = cell >= 1 && cell <= levels;
                Check.due("get(" + cell + "), " + levels + " levels", x.get(cell), varied ? -9 : 50);
            }
        }
    }

    private static void firstValuesFromLevel1On() {
        Check.about("Terms: from level 1 on");
        PerformRanges x = alone(0, 3, 0);
        for (int level = 1; level <= 7; level++) {
            x.vary(1, level, 5, level + 10, 1);
            x.until(1, 9, 1, FIRST);
        }
        x.run(1, 0);
        Check.due("get(5)", x.get(5), 17);
    }

    private static void noneHolds() {
        Check.about("Terms: if none holds, it goes once more");
        PerformRanges x = varying(FIRST, 1, 1, 1, 1, 1, 1, 1);
        runs(x, 1, OVER, 0, "1");
        cellsAre(x, 1, 0, 0, 0, 0, 0, 0);
    }

    private static void level1Holds() {
        Check.about("Terms: if k is 1 it is over");
        PerformRanges x = varying(FIRST, 0, 0, 0, 0, 0, 0, 0);
        runs(x, 1, OVER, 0, "");
        cellsAre(x, 0, 0, 0, 0, 0, 0, 0);
        x = varying(FIRST, 0);
        runs(x, 1, OVER, 0, "");
        cellsAre(x, 0);
    }

    private static void everyOtherLevelHolds() {
        Check.about("Terms: else cell k - 1 gets its step, cells of levels k and more their first values");
        for (int k = 2; k <= 7; k++) {
            PerformRanges x = varying(FIRST, 2, 2, 2, 2, 2, 2, 2);
            int turnsOfLevelK = 1 << (8 - k);
            Check.due("run(1, " + turnsOfLevelK + ")", x.run(1, turnsOfLevelK), turnsOfLevelK);
            ended(x, STEPS, 1);
            for (int level = 1; level <= 7; level++) {
                Check.due("get(" + level + "), k is " + k, x.get(level), level == k - 1 ? 1 : 0);
            }
        }
    }

    private static void heldAtTheBeginning() {
        Check.about("Terms: at the first level k that holds .. it is asked again, at the beginning");
        for (int k = 2; k <= 7; k++) {
            PerformRanges x = alone(0, 3, 0);
            for (int level = 1; level <= 7; level++) {
                x.vary(1, level, level, 5, -1);
                // Level k holds as long as cell k - 1 has its first value; the others don't hold.
                x.until(1, level == k ? k - 1 : 15, 5, FIRST);
            }
            x.run(1, 0);
            ended(x, STEPS, 1);
            for (int level = 1; level <= 7; level++) {
                Check.due("get(" + level + "), k is " + k, x.get(level), level == k - 1 ? 4 : 5);
            }
        }
    }

    private static void stepThenFirstValues() {
        Check.about("Terms: cell k - 1 gets its step, cells of levels k and more their first values, of one cell");
        PerformRanges x = alone(0, 3, 0);
        x.vary(1, 1, 1, 3, 1);
        x.vary(1, 2, 1, 7, 1);
        x.until(1, 2, 1, FIRST);
        x.until(1, 1, 8, FIRST);
        Check.due("run(1, 5)", x.run(1, 5), 5);
        ended(x, STEPS, 1);
        cellsAre(x, 7);
    }

    private static void stepAheadOfAsking() {
        Check.about("Terms: Behind a turn the last level's cell gets its step ahead of asking");
        PerformRanges x = varying(FIRST, 1);
        runs(x, 1, OVER, 0, "1");
        cellsAre(x, 1);
        x = varying(FIRST, 9, 9, 9);
        x.run(1, 1);
        cellsAre(x, 0, 0, 1);
    }

    /** Level 2 holds while cell 1, from a number by -1, is above 0; the paragraph does something. */
    private static PerformRanges askedAgain(long number, int does) {
        PerformRanges x = alone(does, 3, 0);
        x.vary(1, 1, 1, number, -1);
        x.vary(1, 2, 2, 0, 1);
        x.until(1, 9, 1, FIRST);
        x.until(1, 1, 1, FIRST);
        return x;
    }

    private static void aThousandAtTheBeginning() {
        Check.about("Terms: a thousand times at most, .. at the beginning; then it is over");
        PerformRanges x = askedAgain(1000000, 0);
        runs(x, 1, OVER, 0, "");
        cellsAre(x, 999000, 0);
    }

    private static void aThousandBehindATurn() {
        Check.about("Terms: a thousand times at most, behind one turn, .. then it is over");
        PerformRanges x = askedAgain(0, Check.adds(1, 1000000));
        runs(x, 1, OVER, 0, "1");
        cellsAre(x, 999000, 0);
    }

    private static void aThousandBehindOneTurn() {
        Check.about("Terms: a thousand times at most, behind one turn");
        PerformRanges x = askedAgain(999, Check.adds(1, 999));
        Check.due("999 times behind each turn", x.run(1, 50), 50);
        ended(x, STEPS, 1);
        cellsAre(x, 0, 0);
    }

    /** By the reading that the first asking is one of the thousand. */
    private static void lessThanAThousand() {
        Check.about("Terms: it is asked again (a thousand times at most ..)");
        PerformRanges x = askedAgain(999, 0);
        x.run(1, 0);
        ended(x, STEPS, 1);
        cellsAre(x, 0, 0);
        x = askedAgain(1000, 0);
        x.run(1, 0);
        ended(x, OVER, 0);
        cellsAre(x, 0, 0);
        x = varying(FIRST, 999, 0);
        runs(x, 1, OVER, 0, "");
        cellsAre(x, 999, 0);
        x = varying(FIRST, 1001, 0);
        runs(x, 1, OVER, 0, "");
        cellsAre(x, 1000, 0);
    }

    private static void atFirstItGoes() {
        Check.about("Terms: Asked behind: at first it goes");
        PerformRanges x = varying(BEHIND, 0, 0, 0, 0, 0, 0, 0);
        runs(x, 1, OVER, 0, "1");
        cellsAre(x, 0, 0, 0, 0, 0, 0, 0);
    }

    private static void lastLevelThatDoesNotHold() {
        Check.about("Terms: the last level that doesn't hold .. gets its step, cells of levels behind it their first");
        for (int open = 1; open <= 7; open++) {
            PerformRanges x = alone(0, 3, 0);
            for (int level = 1; level <= 7; level++) {
                x.vary(1, level, level, 20, 1);
                x.until(1, level, level > open ? 20 : 99, BEHIND);
            }
            x.run(1, 1);
            ended(x, STEPS, 1);
            for (int level = 1; level <= 7; level++) {
                Check.due("get(" + level + "), " + open, x.get(level), level == open ? 21 : 20);
            }
        }
        PerformRanges x = varying(BEHIND, 1, 1, 1);
        runs(x, 1, OVER, 0, "1 1 1 1 1 1 1 1");
    }

    private static void allHold() {
        Check.about("Terms: if all hold, it is over");
        PerformRanges x = varying(BEHIND, 1, 1);
        x.run(1, 4);
        ended(x, OVER, 0);
        cellsAre(x, 1, 1);
        x.run(1, 3);
        ended(x, STEPS, 1);
        cellsAre(x, 1, 1);
    }

    private static void topEndsThere() {
        Check.about("Terms: if the statement on top of the pile ends there, it has had its turn");
        PerformRanges x = Check.with(Check.performs(2), 0);
        x.perform(1, 2, 1, 2);
        x.perform(2, 2, 1, 2);
        runs(x, 1, OVER, 0, "1 2 2 2 1 2 2 2");
    }

    private static void whateverLiesBelow() {
        Check.about("Terms: else (whatever lies below) the next paragraph is run");
        PerformRanges x = Check.with(Check.performs(2), 0, 0, 0);
        x.perform(1, 2, 0, 0);
        x.perform(2, 4, 0, 0);
        runs(x, 1, OVER, 0, "1 2 3 4 2");
    }

    private static void behindTheLastOne() {
        Check.about("Terms: behind the last one the run FALLS OUT");
        PerformRanges x = Check.with(0, 0);
        x.perform(2, 1, 0, 0);
        runs(x, 1, FELL_OUT, 1, "2");
        x.paragraph(0);
        runs(x, 1, FELL_OUT, 1, "2 3");
        Check.due("steps that are just enough", x.run(1, 2), 2);
        ended(x, FELL_OUT, 1);
        Check.due("a step less", x.run(1, 1), 1);
        ended(x, STEPS, 1);
    }

    private static void behindThe60th() {
        Check.about("Terms: behind the last one the run FALLS OUT, be it the 60th");
        PerformRanges x = new PerformRanges();
        for (int number = 1; number <= 60; number++) {
            x.paragraph(0);
        }
        x.perform(59, 58, 0, 0);
        runs(x, 1, FELL_OUT, 1, "59 60");
    }

    private static void pileStaysAsItIs() {
        Check.about("Terms: A go to leaves the pile as it is");
        int[] waysOut = {0, Check.goes(4), Check.countsDown(0, 4)};
        for (int wayOut : waysOut) {
            PerformRanges x = Check.with(Check.performs(2), wayOut, 0, 0);
            x.perform(1, 3, 0, 0);
            x.perform(2, 2, 0, 0);
            x.goTo(2, wayOut == 0 ? 4 : 0);
            x.put(0, 1);
            runs(x, 1, FELL_OUT, 2, "1 2 4");
            Check.due("active(2)", x.active(2), 1);
            Check.due("active(3)", x.active(3), 1);
        }
    }

    private static void activeRangeIsComeBackTo() {
        Check.about("Terms: A go to leaves the pile as it is, and the range's end is come to later");
        PerformRanges x = Check.with(Check.performs(2), 0, Check.countsDown(0, 5), 0, 0);
        x.perform(1, 1, 0, 0);
        x.perform(3, 4, 1, 2);
        x.goTo(5, 4);
        x.put(0, 1);
        runs(x, 1, OVER, 0, "1 3 5 4 3 4");
    }

    private static void paragraphThatIsNone() {
        Check.about("Terms: when a paragraph that is none is gone to (LOST)");
        PerformRanges x = alone(0, 0, 0);
        for (int to = 2; to <= 60; to += 29) {
            x.goTo(1, to);
            runs(x, 1, LOST, 1, "1");
            Check.due("steps that are just enough", x.run(1, 1), 1);
            ended(x, LOST, 1);
        }
        x.goTo(1, 2);
        x.paragraph(0);
        runs(x, 1, FELL_OUT, 1, "1 2");
    }

    private static void statementThatIsNone() {
        Check.about("Terms: or a statement that is none (..) performed (LOST)");
        int[] none = {0, 2, 60, 61, 268435455};
        for (int statement : none) {
            PerformRanges x = alone(Check.performs(statement), 0, 0);
            runs(x, 1, LOST, 1, "1");
            Check.due("steps that are just enough", x.run(1, 1), 1);
            ended(x, LOST, 1);
            Check.due("count(2)", x.count(2), 1);
        }
    }

    private static void statementThatIsNotWhole() {
        Check.about("Terms: (or is not whole) performed (LOST)");
        PerformRanges x = Check.with(Check.performs(2), Check.performs(4), 0);
        x.perform(1, 1, 0, 0);
        x.perform(3, 3, 2, 0);
        x.perform(2, 2, 0, 0);
        x.perform(3, 3, 3, 0);
        runs(x, 1, LOST, 1, "1");
        x.until(2, 0, 0, FIRST);
        runs(x, 1, OVER, 0, "1");
        runs(x, 3, LOST, 1, "2");
        x.until(4, 1, 1, FIRST);
        runs(x, 3, LOST, 1, "2");
        x.vary(4, 1, 1, 0, 1);
        runs(x, 3, OVER, 0, "2 3");
        x.vary(4, 2, 2, 0, 1);
        runs(x, 3, LOST, 1, "2");
        x.until(4, 2, 1, FIRST);
        runs(x, 3, OVER, 0, "2 3");
    }

    /** Statement 1 performs itself as often as cell 0 says, and then goes to its end. */
    private static PerformRanges nested(long deeper) {
        PerformRanges x = Check.with(Check.countsDown(0, 3), Check.goes(4), Check.performs(1), 0);
        x.perform(1, 4, 0, 0);
        x.put(0, deeper);
        return x;
    }

    private static void aHundredOnThePile() {
        Check.about("Terms: when there would be more than 100 statements on the pile (DEEP)");
        PerformRanges x = nested(99);
        x.run(1, 4096);
        ended(x, OVER, 0);
        Check.due("count(2)", x.count(2), 100);
        x = nested(100);
        Check.due("run(1, 4096)", x.run(1, 4096), 200);
        ended(x, DEEP, 100);
        Check.due("count(2)", x.count(2), 100);
        Check.due("active(4)", x.active(4), 100);
        x.put(0, 100);
        Check.due("steps that are just enough", x.run(1, 200), 200);
        ended(x, DEEP, 100);
        x.put(0, 100);
        Check.due("a step less", x.run(1, 199), 199);
        ended(x, STEPS, 100);
    }

    private static void turnsOfTheHundredth() {
        Check.about("Terms: the 100th statement on the pile has its turns");
        PerformRanges x = Check.with(Check.countsDown(0, 3), Check.performs(2), Check.performs(1), 0, Check.adds(1, 1));
        x.goTo(2, 4);
        x.perform(1, 4, 0, 0);
        x.perform(5, 5, 1, 3);
        x.put(0, 98);
        x.run(1, 4096);
        ended(x, OVER, 0);
        Check.due("count(2)", x.count(2), 100);
        Check.due("get(1)", x.get(1), 3);
        x.put(0, 99);
        x.run(1, 4096);
        ended(x, DEEP, 100);
        Check.due("get(1)", x.get(1), 3);
    }

    private static void aHundredTakenOff() {
        Check.about("Terms: 100 statements on the pile: one that never goes, and 99 that are over at one end");
        PerformRanges x = Check.with(Check.adds(0, 1), Check.performs(1));
        x.perform(1, 2, 2, 0);
        x.until(1, 0, 99, FIRST);
        Check.due("run(1, 4096)", x.run(1, 4096), 198);
        ended(x, OVER, 0);
        Check.due("count(2)", x.count(2), 100);
    }

    private static void asManyParagraphsAsSteps() {
        Check.about("Terms: when it would run more paragraphs than steps");
        PerformRanges x = once(0, 0, 0);
        int[] ran = {0, 1, 2, 3, 3};
        for (int steps = 0; steps <= 4; steps++) {
            Check.due("run(1, " + steps + ")", x.run(1, steps), ran[steps]);
            ended(x, steps < 3 ? STEPS : OVER, steps < 3 ? 1 : 0);
        }
    }

    private static void mostSteps() {
        Check.about("Terms: when it would run more paragraphs than steps, be they 4096");
        PerformRanges x = Check.with(0);
        x.perform(1, 1, 1, 4096);
        x.perform(1, 1, 1, 4097);
        Check.due("run(1, 4096)", x.run(1, 4096), 4096);
        ended(x, OVER, 0);
        Check.due("run(2, 4096)", x.run(2, 4096), 4096);
        ended(x, STEPS, 1);
    }
}
