/** Statements that vary cells: the levels of promise 5 and the conditions of promise 4 in runs. */
public final class VaryingTest {
    private static final boolean FIRST = true;
    private static final boolean BEHIND = false;

    public static void main(String[] args) {
        oneLevel();
        twoLevelsAskedFirst();
        twoLevelsAskedBehind();
        sevenLevels();
        firstWordCounts();
        heldFromTheBeginning();
        thirdLevelHeld();
        conditionsBeyondTheLevels();
        oneCellOnTwoLevels();
        conditionOnAnotherCell();
        stepsGoRound();
        aThousandAtTheBeginning();
        aThousandBehindATurn();
        aThousandForEachTurn();
        theEdgeOfAThousand();
        performedAnew();
        Check.finish();
    }

    private static PerformRanges varying(int does) {
        PerformRanges x = Check.with(does);
        x.perform(1, 1, 3, 0);
        return x;
    }

    /** Cells 1 to 3 at each entry of the range and at the end, by runs of more and more steps. */
    private static String trace(PerformRanges x, int cells) {
        StringBuilder text = new StringBuilder();
        for (int steps = 0; steps < 200; steps++) {
            x.run(1, steps);
            text.append(x.count(0) == 1 ? "" : "over ").append(x.get(1));
            for (int cell = 2; cell <= cells; cell++) {
                text.append(",").append(x.get(cell));
            }
            if (x.count(0) != 1) {
                return text.toString();
            }
            text.append(" ");
        }
        return text.append("..").toString();
    }

    private static void oneLevel() {
        Check.about("one level");
        PerformRanges x = varying(0);
        x.vary(1, 1, 1, 1, 2);
        x.until(1, 1, 6, FIRST);
        Check.due("asked first", trace(x, 1), "1 3 5 over 7");
        x = varying(0);
        x.vary(1, 1, 1, 1, 2);
        x.until(1, 1, 6, BEHIND);
        Check.due("asked behind", trace(x, 1), "1 3 5 7 over 7");
        x = varying(0);
        x.vary(1, 1, 1, 6, 2);
        x.until(1, 1, 6, FIRST);
        Check.due("asked first, held at once", trace(x, 1), "over 6");
        x = varying(0);
        x.vary(1, 1, 1, 6, 2);
        x.until(1, 1, 6, BEHIND);
        Check.due("asked behind, held at once", trace(x, 1), "6 over 6");
    }

    private static PerformRanges twoLevels(boolean first, boolean second) {
        PerformRanges x = varying(0);
        x.vary(1, 1, 1, 1, 1);
        x.vary(1, 2, 2, 0, 2);
        x.until(1, 1, 3, first);
        x.until(1, 2, 4, second);
        return x;
    }

    private static void twoLevelsAskedFirst() {
        Check.about("two levels, asked first");
        Check.due("the cells", trace(twoLevels(FIRST, FIRST), 2), "1,0 1,2 2,0 2,2 over 3,0");
    }

    private static void twoLevelsAskedBehind() {
        Check.about("two levels, asked behind");
        Check.due("the cells", trace(twoLevels(BEHIND, BEHIND), 2),
                "1,0 1,2 1,4 2,0 2,2 2,4 3,0 3,2 3,4 over 3,4");
    }

    private static void firstWordCounts() {
        Check.about("the first condition's word counts for all");
        Check.due("first, behind", trace(twoLevels(FIRST, BEHIND), 2), trace(twoLevels(FIRST, FIRST), 2));
        Check.due("behind, first", trace(twoLevels(BEHIND, FIRST), 2), trace(twoLevels(BEHIND, BEHIND), 2));
    }

    private static void sevenLevels() {
        Check.about("seven levels");
        PerformRanges x = Check.with(Check.adds(0, 1));
        x.perform(1, 1, 3, 0);
        x.perform(1, 1, 3, 0);
        for (int level = 1; level <= 7; level++) {
            x.vary(1, level, level, 0, 1);
            x.until(1, level, 3, FIRST);
            x.vary(2, level, level + 8, 0, 1);
            x.until(2, level + 8, 2, BEHIND);
        }
        Check.due("asked first", x.run(1, 4096), 2187);
        Check.due("asked behind", x.run(2, 4096), 2187);
        Check.due("get(0)", x.get(0), 2 * 2187);
        for (int level = 1; level <= 7; level++) {
            Check.due("asked first, get(" + level + ")", x.get(level), level == 1 ? 3 : 0);
            Check.due("asked behind, get(" + (level + 8) + ")", x.get(level + 8), 2);
        }
    }

    private static void heldFromTheBeginning() {
        Check.about("level 2 holds with its first value");
        PerformRanges x = varying(0);
        x.vary(1, 1, 1, 0, 1);
        x.vary(1, 2, 2, 5, 1);
        x.until(1, 1, 2, FIRST);
        x.until(1, 2, 5, FIRST);
        Check.due("asked first", trace(x, 2), "over 2,5");
        x = varying(0);
        x.vary(1, 1, 1, 0, 1);
        x.vary(1, 2, 2, 5, 1);
        x.until(1, 1, 2, BEHIND);
        x.until(1, 2, 5, BEHIND);
        Check.due("asked behind", trace(x, 2), "0,5 1,5 2,5 over 2,5");
    }

    private static void thirdLevelHeld() {
        Check.about("level 3 holds with its first value");
        PerformRanges x = varying(0);
        for (int level = 1; level <= 3; level++) {
            x.vary(1, level, level, 0, 1);
        }
        x.until(1, 1, 2, FIRST);
        x.until(1, 2, 2, FIRST);
        x.until(1, 3, 0, FIRST);
        Check.due("asked first", trace(x, 3), "over 2,0,0");
    }

    private static void conditionsBeyondTheLevels() {
        Check.about("conditions beyond the levels are not asked");
        PerformRanges x = varying(0);
        x.vary(1, 1, 1, 0, 1);
        x.until(1, 1, 2, FIRST);
        x.until(1, 9, 0, FIRST);
        Check.due("one level, two conditions", trace(x, 1), "0 1 over 2");
        x = varying(0);
        x.vary(1, 1, 1, 0, 1);
        x.until(1, 1, 1, BEHIND);
        x.until(1, 9, 1, BEHIND);
        Check.due("one level, two conditions, asked behind", trace(x, 1), "0 1 over 1");
    }

    private static void oneCellOnTwoLevels() {
        Check.about("first values are given from level 1 on");
        PerformRanges x = varying(0);
        x.vary(1, 1, 1, 3, 1);
        x.vary(1, 2, 1, 7, 1);
        x.until(1, 2, 1, FIRST);
        x.until(1, 1, 9, FIRST);
        x.run(1, 0);
        Check.due("get(1)", x.get(1), 7);
        x.run(1, 2);
        Check.due("level 1's step, then level 2's first value", x.get(1), 7);
        Check.due("count(0)", x.count(0), 1);
    }

    private static void conditionOnAnotherCell() {
        Check.about("conditions on cells that are not varied");
        PerformRanges x = varying(Check.adds(5, 1));
        x.vary(1, 1, 1, 10, -3);
        x.until(1, 5, 3, FIRST);
        Check.due("until cell 5 is 3", x.run(1, 99), 3);
        Check.due("get(1)", x.get(1), 1);
        Check.due("and now it is", x.run(1, 99), 0);
        Check.due("but it has its first value", x.get(1), 10);
    }

    private static void stepsGoRound() {
        Check.about("sums go round");
        PerformRanges x = varying(0);
        x.vary(1, 1, 1, Long.MIN_VALUE, -1);
        x.until(1, 1, 0, BEHIND);
        Check.due("run(1, 99)", x.run(1, 99), 2);
        Check.due("get(1)", x.get(1), Long.MAX_VALUE);
    }

    private static void aThousandAtTheBeginning() {
        Check.about("a thousand askings at the beginning");
        PerformRanges x = varying(0);
        x.vary(1, 1, 1, 0, 1);
        x.vary(1, 2, 2, 5, 1);
        x.until(1, 1, 5000, FIRST);
        x.until(1, 2, 5, FIRST);
        Check.due("run(1, 99)", x.run(1, 99), 0);
        Check.due("count(0)", x.count(0), 0);
        Check.due("get(1)", x.get(1), 1000);
        Check.due("get(2)", x.get(2), 5);
    }

    private static void aThousandBehindATurn() {
        Check.about("a thousand askings behind a turn");
        PerformRanges x = varying(Check.adds(3, 1));
        x.vary(1, 1, 1, 0, 1);
        x.vary(1, 2, 2, 0, 1);
        x.until(1, 1, 5000, FIRST);
        x.until(1, 3, 1, FIRST);
        Check.due("run(1, 99)", x.run(1, 99), 1);
        Check.due("count(0)", x.count(0), 0);
        Check.due("get(1)", x.get(1), 1000);
        Check.due("get(2)", x.get(2), 0);
    }

    /** Level 2 holds as long as level 1's cell, that counts down from a number, is above 0. */
    private static PerformRanges askedAsOftenAs(int number, int does) {
        PerformRanges x = varying(does);
        x.vary(1, 1, 1, number, -1);
        x.vary(1, 2, 2, 0, 1);
        x.until(1, 9, 1, FIRST);
        x.until(1, 1, 1, FIRST);
        return x;
    }

    private static void aThousandForEachTurn() {
        Check.about("a thousand askings for each turn");
        PerformRanges x = askedAsOftenAs(600, Check.adds(1, 600));
        Check.due("run(1, 9)", x.run(1, 9), 9);
        Check.due("count(0)", x.count(0), 1);
        Check.due("get(1)", x.get(1), 0);
    }

    /** By the reading that the first asking is one of the thousand. */
    private static void theEdgeOfAThousand() {
        Check.about("the thousandth asking");
        PerformRanges x = askedAsOftenAs(999, 0);
        Check.due("none holds when it is asked", x.run(1, 9), 9);
        x = askedAsOftenAs(1000, 0);
        Check.due("level 2 holds still", x.run(1, 9), 0);
        Check.due("count(0)", x.count(0), 0);
        Check.due("get(1)", x.get(1), 0);
    }

    private static void performedAnew() {
        Check.about("performed anew, it begins anew");
        PerformRanges x = Check.with(Check.performs(2), Check.adds(0, 1));
        x.perform(1, 1, 1, 3);
        x.perform(2, 2, 3, 0);
        x.vary(2, 1, 1, 0, 1);
        x.until(2, 1, 4, FIRST);
        Check.due("run(1, 99)", x.run(1, 99), 15);
        Check.due("get(0)", x.get(0), 12);
    }
}
