/** What a run does, how it ends and what it leaves behind: promises 7 to 10 and 13. */
public final class RunningTest {
    private static final int NONE = PerformRanges.NONE;
    private static final int OVER = 0;
    private static final int STEPS = 1;
    private static final int FELL_OUT = 2;
    private static final int LOST = 3;
    private static final int DEEP = 4;

    public static void main(String[] args) {
        runRefused();
        steps();
        stepsComeLast();
        countingDown();
        going();
        performing();
        rangesWithinRanges();
        rangesThatOverlap();
        waysOut();
        fallingOut();
        deep();
        lostAheadOfDeep();
        deepEvenIfItNeverGoes();
        leftActive();
        takenOffAtOnce();
        plain();
        order();
        active();
        count();
        Check.finish();
    }

    private static void ended(PerformRanges x, int how, int onPile, String order) {
        Check.due("count(0)", x.count(0), how);
        Check.due("count(1)", x.count(1), onPile);
        Check.due("the order", Check.orderOf(x), order);
    }

    private static void runRefused() {
        Check.about("promise 7, what is refused");
        PerformRanges x = Check.with(Check.adds(0, 1), 0);
        x.perform(2, 1, 0, 0);
        x.perform(1, 1, 2, 0);
        x.perform(1, 1, 3, 0);
        x.run(1, 9);
        String before = Check.stateOf(x);
        int[] none = {0, -1, 4, 61, Integer.MIN_VALUE, Integer.MAX_VALUE};
        for (int statement : none) {
            Check.due("run(" + statement + ", 9)", x.run(statement, 9), NONE);
        }
        long[] noSteps = {-1, 4097, 1L << 32, Long.MIN_VALUE, Long.MAX_VALUE};
        for (long steps : noSteps) {
            Check.due("run(1, " + steps + ")", x.run(1, steps), NONE);
        }
        Check.due("kind 2 without a condition", x.run(2, 9), NONE);
        Check.due("kind 3 without a level or condition", x.run(3, 9), NONE);
        x.until(3, 1, 2, true);
        Check.due("kind 3 without a level", x.run(3, 9), NONE);
        x.vary(3, 1, 1, 0, 1);
        x.vary(3, 2, 2, 0, 1);
        Check.due("kind 3 with a condition less than levels", x.run(3, 9), NONE);
        Check.due("what it was like before", Check.stateOf(x), before);
        x.until(3, 2, 1, true);
        Check.due("kind 3, whole", x.run(3, 9), 2);
        x.until(2, 0, 9, true);
        Check.due("kind 2, whole", x.run(2, 9), 7);
    }

    private static void steps() {
        Check.about("promise 7, steps");
        PerformRanges x = Check.with(Check.adds(0, 1), Check.adds(1, 1));
        x.perform(1, 2, 0, 0);
        Check.due("run(1, 0)", x.run(1, 0), 0);
        ended(x, STEPS, 1, "");
        Check.due("run(1, 1)", x.run(1, 1), 1);
        ended(x, STEPS, 1, "1");
        Check.due("run(1, 2)", x.run(1, 2), 2);
        ended(x, OVER, 0, "1 2");
        Check.due("cells go on from run to run", x.get(0), 2);
        Check.due("cells go on from run to run", x.get(1), 1);
        x.goTo(2, 1);
        Check.due("run(1, 4096)", x.run(1, 4096), 4096);
        Check.due("count(0)", x.count(0), STEPS);
        Check.due("get(0)", x.get(0), 2 + 2048);
        Check.due("order(4095)", x.order(4095), 2);
        Check.due("order(4096)", x.order(4096), 0);
    }

    private static void stepsComeLast() {
        Check.about("promise 7, no step is left, and none is needed");
        PerformRanges x = Check.with(Check.goes(9), Check.performs(9), 0);
        x.perform(1, 3, 0, 0);
        x.perform(2, 3, 0, 0);
        x.perform(3, 1, 0, 0);
        Check.due("run(1, 1)", x.run(1, 1), 1);
        ended(x, LOST, 1, "1");
        Check.due("run(2, 1)", x.run(2, 1), 1);
        ended(x, LOST, 1, "2");
        Check.due("run(3, 1)", x.run(3, 1), 1);
        ended(x, FELL_OUT, 1, "3");
    }

    private static void countingDown() {
        Check.about("terms, does 4");
        PerformRanges x = Check.with(Check.countsDown(2, 1), Check.countsDown(3, 0), Check.countsDown(4, 60));
        x.perform(1, 1, 0, 0);
        x.put(2, 3);
        Check.due("as often as the cell says", x.run(1, 99), 4);
        ended(x, OVER, 0, "1 1 1 1");
        Check.due("get(2)", x.get(2), 0);
        x.put(2, -5);
        Check.due("a cell below 0", x.run(1, 99), 1);
        Check.due("get(2)", x.get(2), -5);
        x.perform(2, 2, 0, 0);
        x.perform(3, 3, 0, 0);
        x.put(3, 1);
        x.put(4, 1);
        Check.due("to paragraph 0", x.run(2, 99), 1);
        ended(x, LOST, 1, "2");
        Check.due("get(3)", x.get(3), 0);
        Check.due("to paragraph 60", x.run(3, 99), 1);
        ended(x, LOST, 1, "3");
        x.perform(3, 2, 0, 0);
        x.goTo(3, 2);
        Check.due("told to go, with nothing to count", x.run(4, 99), 2);
        ended(x, OVER, 0, "3 2");
    }

    private static void going() {
        Check.about("terms, does 3");
        PerformRanges x = Check.with(Check.goes(3), 0, Check.goes(2), Check.goes(0));
        x.perform(1, 2, 0, 0);
        Check.due("run(1, 99)", x.run(1, 99), 3);
        ended(x, OVER, 0, "1 3 2");
        x.goTo(1, 2);
        Check.due("what it was told comes too late", x.run(1, 99), 3);
        x.perform(1, 3, 0, 0);
        Check.due("3 goes, so that it is never at its end", x.run(2, 6), 6);
        ended(x, STEPS, 1, "1 3 2 3 2 3");
        x.perform(4, 4, 0, 0);
        Check.due("to paragraph 0", x.run(3, 99), 1);
        ended(x, LOST, 1, "4");
    }

    private static void performing() {
        Check.about("terms, does 2");
        PerformRanges x = Check.with(Check.performs(2), Check.adds(0, 1), 0, Check.performs(0), Check.performs(3));
        x.perform(1, 1, 1, 2);
        x.perform(2, 3, 1, 3);
        Check.due("3 times, 2 times", x.run(1, 99), 14);
        ended(x, OVER, 0, "1 2 3 2 3 2 3 1 2 3 2 3 2 3");
        Check.due("get(0)", x.get(0), 6);
        Check.due("count(2)", x.count(2), 2);
        x.perform(5, 5, 2, 0);
        x.perform(4, 4, 0, 0);
        x.perform(5, 5, 0, 0);
        Check.due("statement 0 is performed", x.run(4, 99), 1);
        ended(x, LOST, 1, "4");
        Check.due("one that is not whole", x.run(5, 99), 1);
        ended(x, LOST, 1, "5");
        x.until(3, 7, 0, true);
        Check.due("one that is whole now, and never goes", x.run(5, 99), 1);
        ended(x, OVER, 0, "5");
    }

    private static void rangesWithinRanges() {
        Check.about("terms, ranges that share an end");
        PerformRanges x = Check.with(Check.performs(2), 0, 0);
        x.perform(1, 3, 0, 0);
        x.perform(2, 3, 0, 0);
        Check.due("run(1, 99)", x.run(1, 99), 5);
        ended(x, OVER, 0, "1 2 3 2 3");
        x.perform(1, 1, 0, 0);
        Check.due("it ends where the performing stands", x.run(3, 99), 3);
        ended(x, OVER, 0, "1 2 3");
        x.goTo(1, 3);
        Check.due("told to go, behind the performing", x.run(1, 99), 4);
        ended(x, OVER, 0, "1 2 3 3");
    }

    private static void rangesThatOverlap() {
        Check.about("terms, ranges that overlap");
        PerformRanges x = Check.with(Check.performs(2), 0, 0, 0);
        x.perform(1, 2, 0, 0);
        x.perform(2, 3, 0, 0);
        Check.due("an end below the top is none", x.run(1, 99), 4);
        ended(x, OVER, 0, "1 2 3 2");
        x.perform(3, 1, 0, 0);
        x.goTo(4, 1);
        Check.due("from behind its end", x.run(3, 99), 5);
        ended(x, OVER, 0, "3 4 1 2 3");
    }

    private static void waysOut() {
        Check.about("terms, a go to leaves the pile as it is");
        PerformRanges x = Check.with(Check.performs(2), 0, 0, 0);
        x.perform(1, 4, 0, 0);
        x.perform(2, 2, 0, 0);
        x.goTo(2, 4);
        Check.due("run(1, 99)", x.run(1, 99), 3);
        ended(x, FELL_OUT, 2, "1 2 4");
        Check.due("active(2)", x.active(2), 1);
        Check.due("active(4)", x.active(4), 1);
        Check.due("active(1)", x.active(1), 0);
        Check.due("run(2, 99)", x.run(2, 99), 2);
        ended(x, FELL_OUT, 1, "2 4");
        Check.due("active(2)", x.active(2), 1);
        Check.due("active(4), on an empty pile again", x.active(4), 0);
        x.goTo(2, 0);
        x.run(1, 99);
        ended(x, OVER, 0, "1 2 2 3 4");
        Check.due("active(2)", x.active(2), 0);
    }

    private static void fallingOut() {
        Check.about("terms, falling out");
        PerformRanges x = Check.with(0, 0, 0);
        x.perform(3, 2, 1, 5);
        Check.due("run(1, 99)", x.run(1, 99), 1);
        ended(x, FELL_OUT, 1, "3");
        Check.due("active(2)", x.active(2), 1);
        x.paragraph(Check.goes(1));
        Check.due("run(1, 99)", x.run(1, 99), 20);
        Check.due("count(0)", x.count(0), OVER);
    }

    private static void deep() {
        Check.about("terms, deep");
        PerformRanges x = Check.with(Check.performs(1));
        x.perform(1, 1, 0, 0);
        Check.due("run(1, 99)", x.run(1, 99), 99);
        Check.due("count(0)", x.count(0), STEPS);
        Check.due("count(1)", x.count(1), 100);
        Check.due("run(1, 4096)", x.run(1, 4096), 100);
        Check.due("count(0)", x.count(0), DEEP);
        Check.due("count(1)", x.count(1), 100);
        Check.due("count(2)", x.count(2), 100);
        Check.due("active(1)", x.active(1), 100);
    }

    /** Statement 1 is on the pile cell 0 + 1 times when paragraph 2 is come to. */
    private static PerformRanges pileBehindPile(int second) {
        PerformRanges x = Check.with(Check.countsDown(0, 3), second, Check.performs(1));
        x.perform(1, 3, 0, 0);
        return x;
    }

    private static void lostAheadOfDeep() {
        Check.about("terms, lost on a full pile");
        PerformRanges x = pileBehindPile(Check.performs(9));
        x.put(0, 99);
        Check.due("run(1, 4096)", x.run(1, 4096), 200);
        Check.due("count(0)", x.count(0), LOST);
        Check.due("count(1)", x.count(1), 100);
    }

    private static void deepEvenIfItNeverGoes() {
        Check.about("terms, deep by a statement that never goes");
        PerformRanges x = pileBehindPile(Check.performs(2));
        x.perform(1, 1, 1, 0);
        x.put(0, 99);
        Check.due("run(1, 4096)", x.run(1, 4096), 200);
        Check.due("count(0)", x.count(0), DEEP);
        Check.due("count(1)", x.count(1), 100);
    }

    private static void leftActive() {
        Check.about("terms, left active so many times");
        PerformRanges x = pileBehindPile(Check.goes(4));
        x.paragraph(Check.adds(1, 1));
        x.perform(1, 4, 0, 0);
        x.put(0, 5);
        Check.due("run(2, 99)", x.run(2, 99), 13);
        Check.due("count(0)", x.count(0), FELL_OUT);
        Check.due("active(3)", x.active(3), 5);
        Check.due("active(4)", x.active(4), 1);
    }

    private static void takenOffAtOnce() {
        Check.about("terms, a full pile that is taken off at once");
        PerformRanges x = Check.with(Check.adds(0, 1), Check.performs(1));
        x.perform(1, 2, 2, 0);
        x.until(1, 0, 99, true);
        Check.due("run(1, 4096)", x.run(1, 4096), 198);
        Check.due("count(0)", x.count(0), OVER);
        Check.due("count(1)", x.count(1), 0);
        Check.due("count(2)", x.count(2), 100);
        x.put(0, -1);
        Check.due("run(1, 4096)", x.run(1, 4096), 200);
        Check.due("count(0)", x.count(0), DEEP);
    }

    /** An object with runs of many kinds: within them, left active, lost, and not whole. */
    private static PerformRanges withManyRuns() {
        PerformRanges x = Check.with(Check.performs(2), Check.adds(0, 1), Check.countsDown(1, 2), Check.performs(4));
        x.perform(1, 1, 1, 2);
        x.perform(2, 3, 3, 0);
        x.vary(2, 1, 5, 3, 2);
        x.until(2, 5, 9, true);
        x.perform(3, 1, 0, 0);
        x.perform(4, 4, 0, 0);
        x.perform(1, 1, 2, 0);
        x.put(1, 4);
        return x;
    }

    private static void plain() {
        Check.about("promise 8");
        for (int statement = 0; statement <= 6; statement++) {
            PerformRanges x = withManyRuns();
            for (int round = 0; round < 2; round++) {
                String before = Check.stateOf(x);
                int answer = x.plain(statement, 37);
                Check.due("plain(" + statement + ", 37) changes", Check.stateOf(x), before);
                Check.due("plain(" + statement + ", 37) again", x.plain(statement, 37), answer);
                Check.due("run(" + statement + ", 37)", x.run(statement, 37), answer);
            }
        }
        PerformRanges x = withManyRuns();
        long[] noSteps = {-1, 4097, 1L << 32, Long.MIN_VALUE};
        for (long steps : noSteps) {
            Check.due("plain(1, " + steps + ")", x.plain(1, steps), NONE);
        }
        x = Check.with(Check.performs(1));
        x.perform(1, 1, 0, 0);
        Check.due("plain(1, 4096), ahead of all runs", x.plain(1, 4096), 100);
        Check.due("count(0)", x.count(0), NONE);
        Check.due("count(2)", x.count(2), 0);
        Check.due("order(0)", x.order(0), 0);
        Check.due("active(1)", x.active(1), 0);
    }

    private static void order() {
        Check.about("promise 9");
        PerformRanges x = Check.with(0, 0, 0);
        x.perform(2, 3, 0, 0);
        x.perform(1, 1, 1, 0);
        x.perform(1, 1, 0, 0);
        x.run(1, 99);
        Check.due("order(0)", x.order(0), 2);
        Check.due("order(1)", x.order(1), 3);
        int[] none = {2, -1, 4096, Integer.MIN_VALUE, Integer.MAX_VALUE};
        for (int i : none) {
            Check.due("order(" + i + ")", x.order(i), 0);
        }
        x.run(3, 99);
        Check.due("order(0), a shorter run", x.order(0), 1);
        Check.due("order(1), a shorter run", x.order(1), 0);
        x.run(2, 99);
        Check.due("order(0), none was run", x.order(0), 0);
    }

    private static void active() {
        Check.about("promise 10");
        PerformRanges x = Check.with(Check.performs(1), 0);
        Check.due("active(1), ahead of all", x.active(1), 0);
        x.perform(1, 2, 0, 0);
        x.run(1, 7);
        Check.due("active(2)", x.active(2), 8);
        Check.due("active(1)", x.active(1), 0);
        int[] none = {0, -1, 3, 61, Integer.MIN_VALUE, Integer.MAX_VALUE};
        for (int paragraph : none) {
            Check.due("active(" + paragraph + ")", x.active(paragraph), NONE);
        }
        x.paragraph(0);
        Check.due("active(3)", x.active(3), 0);
    }

    private static void count() {
        Check.about("promise 13");
        PerformRanges x = Check.with(Check.performs(2), Check.performs(3), 0);
        x.perform(1, 1, 0, 0);
        x.perform(2, 2, 0, 0);
        x.perform(3, 3, 1, 0);
        x.run(3, 9);
        Check.due("count(1)", x.count(1), 0);
        Check.due("count(2), it never went", x.count(2), 1);
        x.run(1, 9);
        Check.due("count(0)", x.count(0), OVER);
        Check.due("count(1)", x.count(1), 0);
        Check.due("count(2)", x.count(2), 3);
        x.run(2, 0);
        Check.due("count(0)", x.count(0), STEPS);
        Check.due("count(1)", x.count(1), 1);
        Check.due("count(2), in all runs", x.count(2), 3);
        Check.due("count(3)", x.count(3), 3);
        Check.due("count(4)", x.count(4), 3);
        int[] others = {-1, 5, Integer.MIN_VALUE, Integer.MAX_VALUE};
        for (int what : others) {
            Check.due("count(" + what + ")", x.count(what), NONE);
        }
    }
}
