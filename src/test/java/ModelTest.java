import java.util.ArrayList;
import java.util.Arrays;
import java.util.List;

/**
 * Many runs of calls, each answer beside that of a model which performs by recursion, where the
 * class keeps a pile and walks. No call may throw but get and put of a cell that is none.
 */
public final class ModelTest {
    private static final int OBJECTS = 20000;
    private static final int CALLS = 160;
    /** How often, of so many goes, all that can be asked of an object is compared. */
    private static final int COMPARED_ONE_OF = 16;
    private static final int MOST_CALLS = 512;

    /** The end of a run that is not over, with how it ended. */
    private static final class Ended extends Exception {
        private static final long serialVersionUID = 1;
        private final int how;

        Ended(int how) {
            super("ended", null, false, false);
            this.how = how;
        }
    }

    private static final class Range {
        final int from;
        final int to;
        final int kind;
        final int times;
        final List<long[]> conditions = new ArrayList<>();
        final List<long[]> levels = new ArrayList<>();
        boolean first;

        Range(int from, int to, int kind, int times) {
            this.from = from;
            this.to = to;
            this.kind = kind;
            this.times = times;
        }

        boolean whole() {
            return kind < 2 || kind == 2 && !conditions.isEmpty()
                    || kind == 3 && !levels.isEmpty() && conditions.size() >= levels.size();
        }
    }

    private static final class Model {
        final List<Integer> doings = new ArrayList<>();
        final List<Integer> goings = new ArrayList<>();
        final List<Range> ranges = new ArrayList<>();
        long[] cells = new long[16];
        List<Range> pile = new ArrayList<>();
        List<Integer> order = new ArrayList<>();
        int how = -1;
        int most = 0;
        long steps;

        int paragraph(int does) {
            if (does < 0 || does % 8 > 4 || doings.size() == 60) {
                return -1;
            }
            doings.add(does);
            goings.add(0);
            return doings.size();
        }

        boolean is(int paragraph) {
            return paragraph > 0 && paragraph <= doings.size();
        }

        Range range(int number) {
            return number > 0 && number <= ranges.size() ? ranges.get(number - 1) : null;
        }

        int perform(int from, int to, int kind, int times) {
            if (!is(from) || !is(to) || kind < 0 || kind > 3 || ranges.size() == 60) {
                return -1;
            }
            ranges.add(new Range(from, to, kind, times));
            return ranges.size();
        }

        int until(int statement, int cell, long v, boolean first) {
            Range r = range(statement);
            if (r == null || cell < 0 || cell > 15 || r.kind < 2 || r.conditions.size() == 7) {
                return -1;
            }
            r.first = r.conditions.isEmpty() ? first : r.first;
            r.conditions.add(new long[] {cell, v});
            return r.conditions.size();
        }

        int vary(int statement, int level, int cell, long from, long by) {
            Range r = range(statement);
            if (r == null || cell < 0 || cell > 15 || r.kind != 3 || level < 1 || level > 7) {
                return -1;
            }
            if (level > r.levels.size() + 1) {
                return -1;
            }
            if (level == r.levels.size() + 1) {
                r.levels.add(null);
            }
            r.levels.set(level - 1, new long[] {cell, from, by});
            return r.levels.size();
        }

        int goTo(int paragraph, int to) {
            return !is(paragraph) || to < 0 || to > 60 ? -1 : goings.set(paragraph - 1, to);
        }

        int run(int statement, long limit) {
            Range r = range(statement);
            if (r == null || !r.whole() || limit < 0 || limit > 4096) {
                return -1;
            }
            pile = new ArrayList<>();
            order = new ArrayList<>();
            steps = limit;
            how = 0;
            try {
                performed(r);
            } catch (Ended e) {
                how = e.how;
            }
            return order.size();
        }

        int plain(int statement, long limit) {
            long[] oldCells = cells.clone();
            List<Range> oldPile = pile;
            List<Integer> oldOrder = order;
            int oldHow = how;
            int oldMost = most;
            int answer = run(statement, limit);
            cells = oldCells;
            pile = oldPile;
            order = oldOrder;
            how = oldHow;
            most = oldMost;
            return answer;
        }

        int active(int paragraph) {
            int found = 0;
            for (Range r : pile) {
                found += r.to == paragraph ? 1 : 0;
            }
            return is(paragraph) ? found : -1;
        }

        int count(int what) {
            int[] all = {how, pile.size(), most, doings.size(), ranges.size()};
            return what < 0 || what > 4 ? -1 : all[what];
        }

        void performed(Range r) throws Ended {
            if (pile.size() == 100) {
                throw new Ended(4);
            }
            pile.add(r);
            most = Math.max(most, pile.size());
            for (long turn = 0; goes(r, turn); turn++) {
                turn(r);
            }
            pile.remove(pile.size() - 1);
        }

        void turn(Range r) throws Ended {
            int here = r.from;
            while (true) {
                if (order.size() == steps) {
                    throw new Ended(1);
                }
                order.add(here);
                int gone = done(here);
                gone = gone < 0 ? goings.get(here - 1) : gone == 0 ? 61 : gone;
                if (gone > 0 && !is(gone)) {
                    throw new Ended(3);
                }
                if (gone == 0 && here == r.to) {
                    return;
                }
                here = gone > 0 ? gone : here + 1;
                if (!is(here)) {
                    throw new Ended(2);
                }
            }
        }

        /** Where the doing goes to; below 0 when it goes nowhere. */
        int done(int paragraph) throws Ended {
            int does = doings.get(paragraph - 1);
            int cell = (does >> 3) & 15;
            int rest = does >> 7;
            if ((does & 7) == 1) {
                cells[cell] += rest;
            } else if ((does & 7) == 2) {
                Range inner = range(does >> 3);
                if (inner == null || !inner.whole()) {
                    throw new Ended(3);
                }
                performed(inner);
            } else if ((does & 7) == 3) {
                return does >> 3;
            } else if ((does & 7) == 4 && cells[cell] > 0) {
                cells[cell]--;
                return rest;
            }
            return -1;
        }

        boolean goes(Range r, long turn) {
            if (r.kind < 2) {
                return turn < (r.kind == 0 ? 1 : r.times);
            }
            if (r.kind == 2) {
                return turn == 0 && !r.first || !holds(r, 0);
            }
            int last = r.levels.size() - 1;
            if (turn == 0) {
                reset(r, 0);
                return !r.first || settled(r, 1);
            }
            if (r.first) {
                step(r, last);
                return settled(r, 1);
            }
            int open = last;
            while (open >= 0 && holds(r, open)) {
                open--;
            }
            if (open >= 0) {
                step(r, open);
                reset(r, open + 1);
            }
            return open >= 0;
        }

        boolean settled(Range r, int asking) {
            int level = 0;
            while (level < r.levels.size() && !holds(r, level)) {
                level++;
            }
            if (level == 0 || level == r.levels.size()) {
                return level > 0;
            }
            step(r, level - 1);
            reset(r, level);
            return asking < 1000 && settled(r, asking + 1);
        }

        boolean holds(Range r, int level) {
            long[] condition = r.conditions.get(level);
            return cells[(int) condition[0]] >= condition[1];
        }

        void step(Range r, int level) {
            long[] l = r.levels.get(level);
            cells[(int) l[0]] += l[2];
        }

        void reset(Range r, int from) {
            for (long[] l : r.levels.subList(from, r.levels.size())) {
                cells[(int) l[0]] = l[1];
            }
        }
    }

    private static long seed = 20261115;

    /** A number of 0 .. bound - 1, the same ones in every run of the test. */
    private static int pick(int bound) {
        seed = seed * 6364136223846793005L + 1442695040888963407L;
        return (int) ((seed >>> 33) % bound);
    }

    private static int pickDoes() {
        int target = pick(10) == 0 ? pick(62) : pick(9);
        switch (pick(9)) {
            case 0: return 0;
            case 1: case 2: return Check.adds(pick(6), pick(4));
            case 3: case 4: case 5: return Check.performs(target);
            case 6: return pick(3) == 0 ? Check.goes(target) : 0;
            case 7: return Check.countsDown(pick(6), target);
            default: return pick(4) == 0 ? pick(4000) - 100 : Check.adds(pick(6), 1);
        }
    }

    private static int pickNumber() {
        return pick(12) == 0 ? pick(64) - 2 : 1 + pick(9);
    }

    private static int pickCell() {
        return pick(20) == 0 ? pick(20) - 2 : pick(6);
    }

    private static long pickLong() {
        int kind = pick(40);
        return kind == 0 ? Long.MAX_VALUE : kind == 1 ? Long.MIN_VALUE : pick(9) - 3;
    }

    private static long pickSteps() {
        int kind = pick(30);
        return kind == 0 ? 4097 : kind == 1 ? -1 : kind < 5 ? 4096 : pick(300);
    }

    private static String cellText(PerformRanges x, int cell, boolean put, long v) {
        try {
            return String.valueOf(put ? x.put(cell, v) : x.get(cell));
        } catch (IllegalArgumentException e) {
            return "throws." + e.getClass().getSimpleName();
        }
    }

    private static String cellText(Model m, int cell, boolean put, long v) {
        if (cell < 0 || cell > 15) {
            return "throws.IllegalArgumentException";
        }
        long before = m.cells[cell];
        m.cells[cell] = put ? v : before;
        return String.valueOf(before);
    }

    private static void tell(PerformRanges x, Model m) {
        int a = pickNumber();
        int b = pickNumber();
        int c = pickCell();
        long v = pickLong();
        long w = pickLong();
        boolean first = pick(2) == 0;
        switch (pick(6)) {
            case 0:
                int does = pickDoes();
                Check.due("paragraph(" + does + ")", x.paragraph(does), m.paragraph(does));
                break;
            case 1:
                int kind = pick(25) == 0 ? pick(8) - 2 : pick(4);
                Check.due("perform", x.perform(a, b, kind, c), m.perform(a, b, kind, c));
                break;
            case 2: case 3:
                Check.due("until", x.until(a, c, v, first), m.until(a, c, v, first));
                break;
            case 4:
                int level = 1 + pick(pick(8) == 0 ? 9 : 3);
                Check.due("vary", x.vary(a, level, c, v, w), m.vary(a, level, c, v, w));
                break;
            default:
                int to = pick(2) == 0 ? 0 : b;
                Check.due("goTo", x.goTo(a, to), m.goTo(a, to));
        }
    }

    private static void go(PerformRanges x, Model m) {
        int statement = pickNumber();
        long steps = pickSteps();
        int cell = pickCell();
        long v = pickLong();
        switch (pick(5)) {
            case 0: case 1:
                Check.due("run", x.run(statement, steps), m.run(statement, steps));
                break;
            case 2:
                Check.due("plain", x.plain(statement, steps), m.plain(statement, steps));
                break;
            case 3:
                Check.due("put(" + cell + ")", cellText(x, cell, true, v), cellText(m, cell, true, v));
                break;
            default:
                Check.due("get(" + cell + ")", cellText(x, cell, false, v), cellText(m, cell, false, v));
        }
    }

    /** As many calls as compare makes; the document promises an object's first 512 alone. */
    private static int callsOfCompare(Model m) {
        return 7 + m.doings.size() + 3 + ordersCompared(m) + 16;
    }

    private static int ordersCompared(Model m) {
        return Math.min(m.order.size() + 1, 40);
    }

    private static void compare(PerformRanges x, Model m) {
        for (int what = -1; what < 6; what++) {
            Check.due("count(" + what + ")", x.count(what), m.count(what));
        }
        for (int paragraph = -1; paragraph <= m.doings.size() + 1; paragraph++) {
            Check.due("active(" + paragraph + ")", x.active(paragraph), m.active(paragraph));
        }
        for (int k = 0; k < ordersCompared(m); k++) {
            // From the end on, as what comes behind depends on what came ahead.
            int i = m.order.size() - k;
            Check.due("order(" + i + ")", x.order(i), i < m.order.size() ? m.order.get(i) : 0);
        }
        long[] cells = new long[16];
        for (int cell = 0; cell < 16; cell++) {
            cells[cell] = x.get(cell);
        }
        Check.due("the cells", Arrays.toString(cells), Arrays.toString(m.cells));
    }

    private static void beside(PerformRanges x, Model m, int[] ended) {
        int made = 0;
        for (int call = 0; call < CALLS && made < MOST_CALLS; call++) {
            if (pick(CALLS) >= call) {
                tell(x, m);
                made++;
                continue;
            }
            go(x, m);
            ended[Math.max(0, m.how)]++;
            made++;
            if (pick(COMPARED_ONE_OF) == 0 && made + callsOfCompare(m) <= MOST_CALLS) {
                compare(x, m);
                made += callsOfCompare(m);
            }
        }
    }

    public static void main(String[] args) {
        int[] ended = new int[5];
        for (int object = 0; object < OBJECTS; object++) {
            Check.about("object " + object);
            beside(new PerformRanges(), new Model(), ended);
        }
        for (int how = 0; how < 5; how++) {
            Check.about("the test itself");
            Check.due("a thousand runs or more ended by " + how, ended[how] >= 1000 ? 1 : 0, 1);
        }
        System.out.println("runs that ended by 0 .. 4: " + Arrays.toString(ended));
        Check.finish();
    }
}
