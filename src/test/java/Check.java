/** What the tests of the project share: answers that are due, and the doings of paragraphs. */
final class Check {
    private static int wrong = 0;
    private static String about = "";

    private Check() {
    }

    static void about(String promise) {
        about = promise;
    }

    static void due(String call, long got, long want) {
        if (got != want) {
            wrong++;
            System.out.println(about + ": " + call + " answered " + got + ", due is " + want);
        }
    }

    static void due(String call, String got, String want) {
        if (!got.equals(want)) {
            wrong++;
            System.out.println(about + ": " + call + " answered " + got + ", due is " + want);
        }
    }

    static void finish() {
        System.out.println(wrong == 0 ? "all answers are as due" : wrong + " answers are not as due");
        if (wrong != 0) {
            System.exit(1);
        }
    }

    static final int NOTHING = 0;

    static int adds(int cell, int more) {
        return 1 + 8 * cell + 128 * more;
    }

    static int performs(int statement) {
        return 2 + 8 * statement;
    }

    static int goes(int paragraph) {
        return 3 + 8 * paragraph;
    }

    static int countsDown(int cell, int paragraph) {
        return 4 + 8 * cell + 128 * paragraph;
    }

    /** A new object with these paragraphs. */
    static PerformRanges with(int... doings) {
        PerformRanges x = new PerformRanges();
        for (int i = 0; i < doings.length; i++) {
            due("paragraph(" + doings[i] + ")", x.paragraph(doings[i]), i + 1);
        }
        return x;
    }

    /** The paragraphs of the latest run, with a blank between them. */
    static String orderOf(PerformRanges x) {
        StringBuilder text = new StringBuilder();
        for (int i = 0; x.order(i) != 0; i++) {
            text.append(i == 0 ? "" : " ").append(x.order(i));
        }
        return text.toString();
    }

    /** All that can be asked of an object without changing it. */
    static String stateOf(PerformRanges x) {
        StringBuilder text = new StringBuilder();
        for (int what = 0; what < 5; what++) {
            text.append("count ").append(x.count(what)).append("; ");
        }
        for (int cell = 0; cell < 16; cell++) {
            text.append("cell ").append(x.get(cell)).append("; ");
        }
        for (int paragraph = 1; paragraph <= x.count(3); paragraph++) {
            text.append("active ").append(x.active(paragraph)).append("; ");
        }
        return text.append(orderOf(x)).toString();
    }
}
