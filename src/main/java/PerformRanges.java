/** Paragraphs that stand one behind the other, and statements that perform ranges of them. */
public final class PerformRanges {
    public static final int NONE = -1;

    private static final int CELLS = 16;
    private static final int MOST_PARAGRAPHS = 60;
    private static final int MOST_STATEMENTS = 60;
    private static final int MOST_LEVELS = 7;
    private static final int MOST_ON_PILE = 100;
    private static final int MOST_STEPS = 4096;
    private static final int MOST_ASKINGS = 1000;

    private static final int KIND_ONCE = 0;
    private static final int KIND_TIMES = 1;
    private static final int KIND_UNTIL = 2;
    private static final int KIND_VARYING = 3;

    private static final int DOES_ADD = 1;
    private static final int DOES_PERFORM = 2;
    private static final int DOES_GO = 3;
    private static final int DOES_COUNT_DOWN = 4;

    private static final int OVER = 0;
    private static final int OUT_OF_STEPS = 1;
    private static final int FELL_OUT = 2;
    private static final int LOST = 3;
    private static final int DEEP = 4;

    // Paragraphs are numbered from 1 on, so these can stand where a paragraph's number is awaited.
    private static final int THE_RUN_ITSELF = 0;
    private static final int ENDED = 0;
    private static final int BEHIND_DOING = -1;

    private final Program program;
    private final Course latest;
    private final Course trial;

    public PerformRanges() {
        program = new Program();
        latest = new Course(program, new int[MOST_STEPS]);
        // Nobody can ask for the order of a plain run, so it keeps none.
        trial = new Course(program, new int[0]);
    }

    public int paragraph(int does) {
        return program.addParagraph(does);
    }

    public int perform(int from, int to, int kind, int times) {
        if (!program.isParagraph(from) || !program.isParagraph(to)) {
            return NONE;
        }
        if (kind < KIND_ONCE || kind > KIND_VARYING || program.isFullOfStatements()) {
            return NONE;
        }
        return program.addStatement(new Statement(from, to, kind, times));
    }

    public int until(int statement, int cell, long v, boolean first) {
        Statement told = program.statementAt(statement);
        if (told == null || !isCell(cell)) {
            return NONE;
        }
        return told.addCondition(cell, v, first);
    }

    public int vary(int statement, int level, int cell, long from, long by) {
        Statement told = program.statementAt(statement);
        if (told == null || !isCell(cell)) {
            return NONE;
        }
        return told.tellLevel(level, cell, from, by);
    }

    public int goTo(int paragraph, int to) {
        if (to < 0 || to > MOST_PARAGRAPHS) {
            return NONE;
        }
        return program.tellGoing(paragraph, to);
    }

    public int run(int statement, long steps) {
        if (!canBeRun(statement, steps)) {
            return NONE;
        }
        return latest.travel(statement, steps);
    }

    public int plain(int statement, long steps) {
        if (!canBeRun(statement, steps)) {
            return NONE;
        }
        trial.cells.copyFrom(latest.cells);
        return trial.travel(statement, steps);
    }

    public int order(int i) {
        return latest.ranAs(i);
    }

    public int active(int paragraph) {
        if (!program.isParagraph(paragraph)) {
            return NONE;
        }
        return latest.pile.endingAt(paragraph);
    }

    public long get(int cell) throws IllegalArgumentException {
        if (!isCell(cell)) {
            throw new IllegalArgumentException("no such cell");
        }
        return latest.cells.value(cell);
    }

    public long put(int cell, long v) throws IllegalArgumentException {
        if (!isCell(cell)) {
            throw new IllegalArgumentException("no such cell");
        }
        long before = latest.cells.value(cell);
        latest.cells.become(cell, v);
        return before;
    }

    public int count(int what) {
        switch (what) {
            case 0:
                return latest.ending;
            case 1:
                return latest.pile.height;
            case 2:
                return latest.pile.highest;
            case 3:
                return program.paragraphs;
            case 4:
                return program.statements;
            default:
                return NONE;
        }
    }

    private boolean canBeRun(int statement, long steps) {
        return program.wholeStatementAt(statement) != null && steps >= 0 && steps <= MOST_STEPS;
    }

    private static boolean isCell(int cell) {
        return cell >= 0 && cell < CELLS;
    }

    /**
     * The cells of one course; outside of 0 .. 15 there is nothing to read or to change. Its methods
     * call no other: they stand at the end of the longest chain of calls.
     */
    private static final class Cells {
        private final long[] values = new long[CELLS];

        long value(int cell) {
            return cell >= 0 && cell < CELLS ? values[cell] : 0;
        }

        void become(int cell, long v) {
            if (cell >= 0 && cell < CELLS) {
                values[cell] = v;
            }
        }

        void grow(int cell, long by) {
            if (cell >= 0 && cell < CELLS) {
                values[cell] += by;
            }
        }

        void copyFrom(Cells other) {
            for (int cell = 0; cell < CELLS; cell++) {
                values[cell] = other.values[cell];
            }
        }
    }

    /** A range, and what tells how often it goes; levels and conditions are counted from 1 on. */
    private static final class Statement {
        private final int from;
        private final int to;
        private final int kind;
        private final int times;
        private boolean askedFirst;
        private int conditions;
        private int levels;
        private final int[] conditionCells = new int[MOST_LEVELS];
        private final long[] conditionValues = new long[MOST_LEVELS];
        private final int[] levelCells = new int[MOST_LEVELS];
        private final long[] firstValues = new long[MOST_LEVELS];
        private final long[] levelSteps = new long[MOST_LEVELS];

        Statement(int from, int to, int kind, int times) {
            this.from = from;
            this.to = to;
            this.kind = kind;
            this.times = times;
        }

        int addCondition(int cell, long v, boolean first) {
            if ((kind != KIND_UNTIL && kind != KIND_VARYING) || conditions >= MOST_LEVELS) {
                return NONE;
            }
            if (conditions == 0) {
                askedFirst = first;
            }
            conditionCells[conditions] = cell;
            conditionValues[conditions] = v;
            conditions++;
            return conditions;
        }

        int tellLevel(int level, int cell, long first, long by) {
            if (kind != KIND_VARYING || level < 1 || level > levels + 1 || level > MOST_LEVELS) {
                return NONE;
            }
            levelCells[level - 1] = cell;
            firstValues[level - 1] = first;
            levelSteps[level - 1] = by;
            levels = Math.max(levels, level);
            return levels;
        }

        boolean isWhole() {
            if (kind == KIND_UNTIL) {
                return conditions > 0;
            }
            return kind != KIND_VARYING || (levels > 0 && conditions >= levels);
        }

        boolean goesAtFirst(Cells cells) {
            switch (kind) {
                case KIND_ONCE:
                    return true;
                case KIND_TIMES:
                    return times > 0;
                case KIND_UNTIL:
                    return !askedFirst || !holds(1, cells);
                default:
                    takeFirstValues(1, cells);
                    return !askedFirst || findsTurn(cells);
            }
        }

        boolean goesOnceMore(int turnsHad, Cells cells) {
            switch (kind) {
                case KIND_ONCE:
                    return false;
                case KIND_TIMES:
                    return turnsHad < times;
                case KIND_UNTIL:
                    return !holds(1, cells);
                default:
                    if (!askedFirst) {
                        return stepsLastOpenLevel(cells);
                    }
                    takeStep(levels, cells);
                    return findsTurn(cells);
            }
        }

        private boolean findsTurn(Cells cells) {
            for (int asked = 0; asked < MOST_ASKINGS; asked++) {
                int level = firstLevelThatHolds(cells);
                if (level == 0) {
                    return true;
                }
                if (level == 1) {
                    return false;
                }
                takeStep(level - 1, cells);
                takeFirstValues(level, cells);
            }
            return false;
        }

        private int firstLevelThatHolds(Cells cells) {
            for (int level = 1; level <= levels; level++) {
                if (holds(level, cells)) {
                    return level;
                }
            }
            return 0;
        }

        private boolean stepsLastOpenLevel(Cells cells) {
            for (int level = levels; level >= 1; level--) {
                if (!holds(level, cells)) {
                    takeStep(level, cells);
                    takeFirstValues(level + 1, cells);
                    return true;
                }
            }
            return false;
        }

        private boolean holds(int level, Cells cells) {
            if (level < 1 || level > MOST_LEVELS) {
                return false;
            }
            return cells.value(conditionCells[level - 1]) >= conditionValues[level - 1];
        }

        private void takeStep(int level, Cells cells) {
            if (level >= 1 && level <= MOST_LEVELS) {
                cells.grow(levelCells[level - 1], levelSteps[level - 1]);
            }
        }

        private void takeFirstValues(int fromLevel, Cells cells) {
            if (fromLevel < 1) {
                return;
            }
            for (int level = fromLevel; level <= levels && level <= MOST_LEVELS; level++) {
                cells.become(levelCells[level - 1], firstValues[level - 1]);
            }
        }
    }

    /** The paragraphs and the statements, as they were told; no run changes them. */
    private static final class Program {
        private final int[] doings = new int[MOST_PARAGRAPHS];
        private final int[] goings = new int[MOST_PARAGRAPHS];
        private final Statement[] told = new Statement[MOST_STATEMENTS];
        private int paragraphs;
        private int statements;

        boolean isParagraph(int number) {
            return number >= 1 && number <= paragraphs && number <= MOST_PARAGRAPHS;
        }

        int addParagraph(int does) {
            if (does < 0 || does % 8 > DOES_COUNT_DOWN || paragraphs >= MOST_PARAGRAPHS) {
                return NONE;
            }
            doings[paragraphs] = does;
            paragraphs++;
            return paragraphs;
        }

        /** What a paragraph does; nothing, if there is none such. */
        int doingOf(int paragraph) {
            return isParagraph(paragraph) ? doings[paragraph - 1] : 0;
        }

        /** The number of the statement that a paragraph performs; NONE, if it does another thing. */
        int performedBy(int paragraph) {
            int does = doingOf(paragraph);
            return does % 8 == DOES_PERFORM ? does / 8 : NONE;
        }

        int tellGoing(int paragraph, int to) {
            if (!isParagraph(paragraph)) {
                return NONE;
            }
            int before = goings[paragraph - 1];
            goings[paragraph - 1] = to;
            return before;
        }

        /** Where a paragraph was told to go behind its doing; 0, if it was not told. */
        int goingOf(int paragraph) {
            return isParagraph(paragraph) ? goings[paragraph - 1] : 0;
        }

        boolean isFullOfStatements() {
            return statements >= MOST_STATEMENTS;
        }

        int addStatement(Statement statement) {
            if (isFullOfStatements()) {
                return NONE;
            }
            told[statements] = statement;
            statements++;
            return statements;
        }

        Statement statementAt(int number) {
            if (number < 1 || number > statements || number > MOST_STATEMENTS) {
                return null;
            }
            return told[number - 1];
        }

        Statement wholeStatementAt(int number) {
            Statement statement = statementAt(number);
            return statement != null && statement.isWhole() ? statement : null;
        }
    }

    /** The statements that are being performed, each with what performed it and its turns. */
    private static final class Pile {
        private final Statement[] laid = new Statement[MOST_ON_PILE];
        private final int[] performers = new int[MOST_ON_PILE];
        private final int[] turns = new int[MOST_ON_PILE];
        private int height;
        private int highest;

        void clear() {
            height = 0;
        }

        boolean isFull() {
            return height >= MOST_ON_PILE;
        }

        void lay(Statement statement, int performer) {
            if (isFull() || height < 0) {
                return;
            }
            laid[height] = statement;
            performers[height] = performer;
            turns[height] = 0;
            height++;
            highest = Math.max(highest, height);
        }

        Statement top() {
            return height > 0 && height <= MOST_ON_PILE ? laid[height - 1] : null;
        }

        /** How many turns the top has had, this one with it. */
        int countTurn() {
            if (height < 1 || height > MOST_ON_PILE) {
                return 0;
            }
            turns[height - 1]++;
            return turns[height - 1];
        }

        /** Takes the top off: the paragraph that performed it, or the run itself. */
        int takeOff() {
            if (height < 1 || height > MOST_ON_PILE) {
                return THE_RUN_ITSELF;
            }
            height--;
            return performers[height];
        }

        int endingAt(int paragraph) {
            int found = 0;
            for (int i = 0; i < height && i < MOST_ON_PILE; i++) {
                Statement statement = laid[i];
                if (statement != null && statement.to == paragraph) {
                    found++;
                }
            }
            return found;
        }
    }

    /**
     * A run's way through the paragraphs, with the cells that it changes and what it leaves behind.
     * Its methods answer the paragraph that is run next, or ENDED, or BEHIND_DOING.
     */
    private static final class Course {
        private final Program program;
        private final Cells cells = new Cells();
        private final Pile pile = new Pile();
        private final int[] ran;
        private int length;
        private int ending = NONE;

        Course(Program program, int[] ran) {
            this.program = program;
            this.ran = ran;
        }

        int travel(int statement, long steps) {
            pile.clear();
            int next = performing(statement, THE_RUN_ITSELF);
            if (next == BEHIND_DOING) {
                next = end(OVER);
            }
            int done = 0;
            for (; next != ENDED && done < steps; done++) {
                int here = next;
                note(done, here);
                // Performing is not left to doing: the chain of calls would grow too long there.
                int performed = program.performedBy(here);
                next = performed == NONE ? doing(here) : performing(performed, here);
                if (next == BEHIND_DOING) {
                    next = behindDoing(here);
                }
            }
            if (next != ENDED) {
                end(OUT_OF_STEPS);
            }
            length = done;
            return done;
        }

        int ranAs(int i) {
            return i >= 0 && i < length && i < ran.length ? ran[i] : 0;
        }

        private void note(int i, int paragraph) {
            if (i >= 0 && i < ran.length) {
                ran[i] = paragraph;
            }
        }

        private int end(int how) {
            ending = how;
            return ENDED;
        }

        private int performing(int number, int performer) {
            Statement statement = program.wholeStatementAt(number);
            if (statement == null) {
                return end(LOST);
            }
            if (pile.isFull()) {
                return end(DEEP);
            }
            pile.lay(statement, performer);
            if (statement.goesAtFirst(cells)) {
                return statement.from;
            }
            pile.takeOff();
            return BEHIND_DOING;
        }

        private int doing(int paragraph) {
            int does = program.doingOf(paragraph);
            int cell = does / 8 % CELLS;
            switch (does % 8) {
                case DOES_ADD:
                    cells.grow(cell, does / 128);
                    return BEHIND_DOING;
                case DOES_GO:
                    return going(does / 8);
                case DOES_COUNT_DOWN:
                    if (cells.value(cell) <= 0) {
                        return BEHIND_DOING;
                    }
                    cells.grow(cell, -1);
                    return going(does / 128);
                default:
                    return BEHIND_DOING;
            }
        }

        private int going(int paragraph) {
            return program.isParagraph(paragraph) ? paragraph : end(LOST);
        }

        /** A statement that is over hands on to what performed it, so the pile may shrink by many. */
        private int behindDoing(int paragraph) {
            int here = paragraph;
            for (int takenOff = 0; takenOff < MOST_ON_PILE && here != THE_RUN_ITSELF; takenOff++) {
                int told = program.goingOf(here);
                if (told != 0) {
                    return going(told);
                }
                Statement top = pile.top();
                if (top == null || top.to != here) {
                    return falling(here);
                }
                if (top.goesOnceMore(pile.countTurn(), cells)) {
                    return top.from;
                }
                here = pile.takeOff();
            }
            return end(OVER);
        }

        private int falling(int paragraph) {
            return program.isParagraph(paragraph + 1) ? paragraph + 1 : end(FELL_OUT);
        }
    }
}
