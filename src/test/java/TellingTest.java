/** What is told to an object and asked of it: promises 1 to 6, 11 and 12. */
public final class TellingTest {
    private static final int NONE = PerformRanges.NONE;
    private static final int[] NO_CELLS = {-1, 16, Integer.MIN_VALUE, Integer.MAX_VALUE};

    public static void main(String[] args) {
        newObject();
        paragraph();
        perform();
        performTimes();
        until();
        untilFirstOne();
        vary();
        varyAnew();
        goTo();
        goToIsFollowed();
        getAndPut();
        Check.finish();
    }

    private static void newObject() {
        Check.about("promise 1");
        PerformRanges x = new PerformRanges();
        Check.due("count(0)", x.count(0), NONE);
        for (int what = 1; what <= 4; what++) {
            Check.due("count(" + what + ")", x.count(what), 0);
        }
        for (int cell = 0; cell < 16; cell++) {
            Check.due("get(" + cell + ")", x.get(cell), 0);
        }
        Check.due("order(0)", x.order(0), 0);
        Check.due("active(1)", x.active(1), NONE);
        Check.due("run(1, 1)", x.run(1, 1), NONE);
        Check.due("goTo(1, 1)", x.goTo(1, 1), NONE);
        x.paragraph(0);
        Check.due("paragraphs of another object", new PerformRanges().count(3), 0);
    }

    private static void paragraph() {
        Check.about("promise 2");
        PerformRanges x = new PerformRanges();
        int[] wrong = {-1, -8, Integer.MIN_VALUE, 5, 6, 7, 13, 8 * 999 + 7, Integer.MAX_VALUE};
        for (int does : wrong) {
            Check.due("paragraph(" + does + ")", x.paragraph(does), NONE);
        }
        Check.due("count(3)", x.count(3), 0);
        int[] right = {0, 1, 2, 3, 4, 8, 8 * 999 + 4, Integer.MAX_VALUE - 3, Integer.MAX_VALUE - 7};
        for (int i = 0; i < right.length; i++) {
            Check.due("paragraph(" + right[i] + ")", x.paragraph(right[i]), i + 1);
        }
        for (int number = right.length + 1; number <= 60; number++) {
            Check.due("paragraph(0)", x.paragraph(0), number);
        }
        Check.due("the 61st paragraph", x.paragraph(0), NONE);
        Check.due("count(3)", x.count(3), 60);
    }

    private static void perform() {
        Check.about("promise 3");
        PerformRanges x = Check.with(0, 0);
        int[] none = {0, -1, 3, 61, Integer.MIN_VALUE, Integer.MAX_VALUE};
        for (int paragraph : none) {
            Check.due("perform(" + paragraph + ", 1, 0, 0)", x.perform(paragraph, 1, 0, 0), NONE);
            Check.due("perform(1, " + paragraph + ", 0, 0)", x.perform(1, paragraph, 0, 0), NONE);
        }
        int[] noKinds = {-1, 4, Integer.MIN_VALUE, Integer.MAX_VALUE};
        for (int kind : noKinds) {
            Check.due("perform(1, 2, " + kind + ", 0)", x.perform(1, 2, kind, 0), NONE);
        }
        Check.due("count(4)", x.count(4), 0);
        for (int number = 1; number <= 60; number++) {
            int kind = number % 4;
            Check.due("perform(2, 1, " + kind + ", 0)", x.perform(2, 1, kind, 0), number);
        }
        Check.due("the 61st statement", x.perform(1, 2, 0, 0), NONE);
        Check.due("count(4)", x.count(4), 60);
    }

    private static void performTimes() {
        Check.about("promise 3, times");
        int[] times = {Integer.MIN_VALUE, -1, 0, 1, 3, 4096, Integer.MAX_VALUE};
        int[] ran = {0, 0, 0, 1, 3, 4096, 4096};
        int[] ended = {0, 0, 0, 0, 0, 0, 1};
        for (int i = 0; i < times.length; i++) {
            PerformRanges x = Check.with(Check.NOTHING);
            x.perform(1, 1, 1, times[i]);
            Check.due(times[i] + " times", x.run(1, 4096), ran[i]);
            Check.due(times[i] + " times: count(0)", x.count(0), ended[i]);
            Check.due(times[i] + " times: count(2)", x.count(2), 1);
        }
        PerformRanges x = Check.with(Check.NOTHING);
        x.perform(1, 1, 0, 5);
        x.perform(1, 1, 0, -5);
        Check.due("once, whatever times is", x.run(1, 99), 1);
        Check.due("once, whatever times is", x.run(2, 99), 1);
    }

    private static void until() {
        Check.about("promise 4");
        PerformRanges x = Check.with(0);
        for (int kind = 0; kind < 4; kind++) {
            x.perform(1, 1, kind, 1);
        }
        int[] none = {0, -1, 5, 61, Integer.MIN_VALUE, Integer.MAX_VALUE};
        for (int statement : none) {
            Check.due("until(" + statement + ", ..)", x.until(statement, 0, 0, true), NONE);
        }
        Check.due("until of kind 0", x.until(1, 0, 0, true), NONE);
        Check.due("until of kind 1", x.until(2, 0, 0, true), NONE);
        for (int cell : NO_CELLS) {
            Check.due("until(3, " + cell + ", ..)", x.until(3, cell, 0, true), NONE);
        }
        for (int statement = 3; statement <= 4; statement++) {
            for (int i = 1; i <= 7; i++) {
                Check.due("until(" + statement + ", ..)", x.until(statement, 2 * i + 1, i, false), i);
            }
            Check.due("the eighth condition", x.until(statement, 0, 0, true), NONE);
        }
    }

    private static void untilFirstOne() {
        Check.about("promise 4, the first condition");
        PerformRanges x = Check.with(Check.adds(0, 1));
        x.perform(1, 1, 2, 0);
        x.until(1, 0, 3, true);
        x.until(1, 0, 1, false);
        Check.due("until cell 0 is at least 3", x.run(1, 99), 3);
        Check.due("get(0)", x.get(0), 3);
        Check.due("asked first, holding already", x.run(1, 99), 0);
        Check.due("count(0)", x.count(0), 0);
        x.perform(1, 1, 2, 0);
        x.until(2, 0, 3, false);
        x.until(2, 0, 9, true);
        Check.due("asked behind, holding already", x.run(2, 99), 1);
        x.put(0, 0);
        Check.due("asked behind", x.run(2, 99), 3);
        x.perform(1, 1, 2, 0);
        x.until(3, 9, Long.MIN_VALUE, true);
        Check.due("at least the least number", x.run(3, 99), 0);
    }

    private static void vary() {
        Check.about("promise 5");
        PerformRanges x = Check.with(0);
        for (int kind = 0; kind < 4; kind++) {
            x.perform(1, 1, kind, 1);
        }
        int[] none = {0, -1, 5, 61, Integer.MIN_VALUE, Integer.MAX_VALUE};
        for (int number : none) {
            Check.due("vary(" + number + ", 1, ..)", x.vary(number, 1, 0, 0, 0), NONE);
            Check.due("vary(4, " + number + ", ..)", x.vary(4, number, 0, 0, 0), NONE);
        }
        for (int statement = 1; statement <= 3; statement++) {
            Check.due("vary of another kind", x.vary(statement, 1, 0, 0, 0), NONE);
        }
        for (int cell : NO_CELLS) {
            Check.due("vary(4, 1, " + cell + ", ..)", x.vary(4, 1, cell, 0, 0), NONE);
        }
        for (int level = 1; level <= 7; level++) {
            Check.due("a level too far", x.vary(4, level + 1, 0, 0, 0), NONE);
            Check.due("vary(4, " + level + ", ..)", x.vary(4, level, level, 0, 1), level);
            Check.due("level 1 anew", x.vary(4, 1, 15, 0, 1), level);
        }
        Check.due("the eighth level", x.vary(4, 8, 0, 0, 0), NONE);
        Check.due("level 7 anew", x.vary(4, 7, 0, 0, 0), 7);
    }

    private static void varyAnew() {
        Check.about("promise 5, a level told anew");
        PerformRanges x = Check.with(0);
        x.perform(1, 1, 3, 0);
        x.until(1, 5, 10, true);
        x.vary(1, 1, 4, 0, 1);
        x.vary(1, 1, 16, 0, 1);
        x.vary(1, 1, 5, 1, 3);
        Check.due("from 1 by 3 until 10", x.run(1, 99), 3);
        Check.due("get(5)", x.get(5), 10);
        Check.due("get(4)", x.get(4), 0);
    }

    private static void goTo() {
        Check.about("promise 6");
        PerformRanges x = Check.with(0, 0);
        int[] none = {0, -1, 3, 61, Integer.MIN_VALUE, Integer.MAX_VALUE};
        for (int paragraph : none) {
            Check.due("goTo(" + paragraph + ", 1)", x.goTo(paragraph, 1), NONE);
        }
        int[] nowhere = {-1, 61, Integer.MIN_VALUE, Integer.MAX_VALUE};
        Check.due("goTo(1, 2)", x.goTo(1, 2), 0);
        for (int to : nowhere) {
            Check.due("goTo(1, " + to + ")", x.goTo(1, to), NONE);
        }
        Check.due("goTo(1, 60)", x.goTo(1, 60), 2);
        Check.due("goTo(2, 1)", x.goTo(2, 1), 0);
        Check.due("goTo(1, 0)", x.goTo(1, 0), 60);
        Check.due("goTo(1, 1)", x.goTo(1, 1), 0);
    }

    private static void goToIsFollowed() {
        Check.about("promise 6, in a run");
        PerformRanges x = Check.with(Check.adds(3, 2), 0, 0);
        x.perform(1, 3, 0, 0);
        x.goTo(1, 3);
        Check.due("run(1, 99)", x.run(1, 99), 2);
        Check.due("its order", Check.orderOf(x), "1 3");
        Check.due("get(3)", x.get(3), 2);
        x.goTo(1, 0);
        Check.due("run(1, 99)", x.run(1, 99), 3);
        x.goTo(3, 2);
        Check.due("a range whose end is never come to", x.run(1, 5), 5);
        Check.due("its order", Check.orderOf(x), "1 2 3 2 3");
        x.goTo(3, 4);
        Check.due("a go to a paragraph that is none", x.run(1, 99), 3);
        Check.due("count(0)", x.count(0), 3);
        x.paragraph(0);
        x.goTo(4, 1);
        Check.due("and that has come to be", x.run(1, 5), 5);
        Check.due("its order", Check.orderOf(x), "1 2 3 4 1");
    }

    private static void getAndPut() {
        Check.about("promises 11 and 12");
        PerformRanges x = Check.with(Check.adds(15, 1), Check.adds(0, 16777215));
        for (int cell = 0; cell < 16; cell++) {
            Check.due("put(" + cell + ", ..)", x.put(cell, 100 - cell), 0);
        }
        for (int cell = 0; cell < 16; cell++) {
            Check.due("get(" + cell + ")", x.get(cell), 100 - cell);
            Check.due("put(" + cell + ", ..)", x.put(cell, Long.MIN_VALUE + cell), 100 - cell);
            Check.due("get(" + cell + ")", x.get(cell), Long.MIN_VALUE + cell);
        }
        String before = Check.stateOf(x);
        for (int cell : NO_CELLS) {
            Check.due("get(" + cell + ")", thrownByGet(x, cell), "IllegalArgumentException");
            Check.due("put(" + cell + ", 7)", thrownByPut(x, cell), "IllegalArgumentException");
        }
        Check.due("all the cells", Check.stateOf(x), before);
        Check.about("terms, cells");
        x.perform(1, 2, 0, 0);
        x.put(15, Long.MAX_VALUE);
        x.put(0, 0);
        x.run(1, 9);
        Check.due("the greatest number and 1", x.get(15), Long.MIN_VALUE);
        Check.due("the most that a doing can add", x.get(0), 16777215);
    }

    private static String thrownByGet(PerformRanges x, int cell) {
        try {
            x.get(cell);
            return "nothing";
        } catch (RuntimeException e) {
            return e.getClass().getSimpleName();
        }
    }

    private static String thrownByPut(PerformRanges x, int cell) {
        try {
            x.put(cell, 7);
            return "nothing";
        } catch (RuntimeException e) {
            return e.getClass().getSimpleName();
        }
    }
}
