import java.util.Arrays;

/**
 * Proofs as rows made from rows, told anew as shortly as rows that come again allow.
 *
 * <p>A face over three parts: the statements, the rows with their kinds (rows that are the same are
 * of one kind), and the telling of the row that was packed last.
 */
public final class ProofPacker {
    public static final int NONE = -1;

    private static final int MOST_STATEMENTS = 1500;
    private static final int MOST_TAKEN = 60;
    private static final int MOST_MANDATORY = 60;
    private static final int MOST_ROWS = 4000;
    private static final int MOST_ON_PILE = 200;
    private static final int MOST_PUTS = 20000;
    private static final int MOST_IN_FULL = 4000;
    private static final long MOST_COUNTED = 1000000000000000000L;
    private static final long UNCOUNTED = -2L;

    private final Statements statements;
    private final Rows rows;
    private final Telling telling;
    private final IntList pile;
    private int puts;

    public ProofPacker() {
        statements = new Statements();
        rows = new Rows();
        telling = new Telling(statements, rows);
        pile = new IntList();
        puts = 0;
    }

    public int statement(int n) {
        if (n < 0 || n > MOST_TAKEN || statements.amount() >= MOST_STATEMENTS) {
            return NONE;
        }
        return statements.add(n);
    }

    public int mandatory(int i) {
        if (!statements.has(i) || statements.taking(i) != 0) {
            return NONE;
        }
        if (statements.isMandatory(i) || statements.mandatories() >= MOST_MANDATORY) {
            return NONE;
        }
        return statements.addMandatory(i);
    }

    public int make(int i) {
        if (!statements.has(i)) {
            return NONE;
        }
        int under = pile.length() - statements.taking(i);
        if (under < 0 || rows.amount() >= MOST_ROWS || !mayPutOn(under)) {
            return NONE;
        }
        int r = rows.add(i, pile, under);
        pile.cut(under);
        putOn(r);
        return r;
    }

    public int again(int r) {
        if (!rows.has(r) || !mayPutOn(pile.length())) {
            return NONE;
        }
        putOn(r);
        return pile.length();
    }

    public int clear() {
        int before = rows.amount();
        rows.forget();
        telling.forget();
        pile.cut(0);
        puts = 0;
        return before;
    }

    public int count(int what) {
        switch (what) {
            case 0:
                return statements.amount();
            case 1:
                return statements.mandatories();
            case 2:
                return rows.amount();
            case 3:
                return pile.length();
            case 4:
                return puts;
            case 5:
                return rows.amountOfKinds();
            default:
                return NONE;
        }
    }

    public int row(int r) {
        return rows.statementOf(r);
    }

    public int from(int r, int k) {
        return rows.part(r, k);
    }

    public int same(int r, int s) {
        if (!rows.has(r) || !rows.has(s)) {
            return NONE;
        }
        return rows.kindOf(r) == rows.kindOf(s) ? 1 : 0;
    }

    public int pack() {
        if (pile.length() != 1) {
            return NONE;
        }
        telling.tell(pile.at(0));
        return telling.amountOfSteps();
    }

    public int step(int k) {
        return telling.stepAt(k);
    }

    public int saves(int k) {
        if (k < 0 || k >= telling.amountOfSteps()) {
            return NONE;
        }
        return telling.isSavedAt(k) ? 1 : 0;
    }

    public int label(int k) {
        return telling.labelAt(k);
    }

    public int packed(int what) {
        switch (what) {
            case 0:
                return telling.amountOfLabels();
            case 1:
                return telling.amountOfLetters();
            case 2:
                return telling.amountOfSaved();
            default:
                return NONE;
        }
    }

    public int letter(int k) {
        return telling.letterAt(k);
    }

    public long size(int r) {
        if (!rows.has(r)) {
            return NONE;
        }
        long steps = rows.stepsInFull(r);
        return steps > MOST_COUNTED ? UNCOUNTED : steps;
    }

    public int full(int r, int k) {
        long steps = rows.stepsInFull(r);
        if (steps > MOST_IN_FULL || k < 0 || k >= steps) {
            return NONE;
        }
        return rows.statementInFull(r, k);
    }

    public int check() {
        return telling.makesItsRow() ? 1 : 0;
    }

    private boolean mayPutOn(int under) {
        return under < MOST_ON_PILE && puts < MOST_PUTS;
    }

    private void putOn(int r) {
        pile.add(r);
        puts++;
    }

    /** Numbers in order. A place outside it reads as NONE, so no reader can leave the array. */
    private static final class IntList {
        private static final int FIRST_ROOM = 16;

        private int[] items;
        private int used;

        IntList() {
            items = new int[FIRST_ROOM];
            used = 0;
        }

        int length() {
            return used;
        }

        int at(int k) {
            return k >= 0 && k < used ? items[k] : NONE;
        }

        void add(int value) {
            if (used >= items.length) {
                items = Arrays.copyOf(items, 2 * used);
            }
            items[used] = value;
            used++;
        }

        void put(int k, int value) {
            if (k >= 0 && k < used) {
                items[k] = value;
            }
        }

        void cut(int length) {
            if (length >= 0 && length < used) {
                used = length;
            }
        }

        void fill(int length, int value) {
            used = 0;
            for (int k = 0; k < length; k++) {
                add(value);
            }
        }

        void turnRound(int first) {
            int low = first;
            int high = used - 1;
            while (low < high) {
                int kept = at(low);
                put(low, at(high));
                put(high, kept);
                low++;
                high--;
            }
        }
    }

    /** What each statement takes, and the places of the mandatory ones. */
    private static final class Statements {
        private final IntList takings;
        private final IntList places;
        private int mandatories;

        Statements() {
            takings = new IntList();
            places = new IntList();
            mandatories = 0;
        }

        int amount() {
            return takings.length();
        }

        int mandatories() {
            return mandatories;
        }

        boolean has(int i) {
            return i >= 0 && i < takings.length();
        }

        int taking(int i) {
            return takings.at(i);
        }

        boolean isMandatory(int i) {
            return places.at(i) != NONE;
        }

        int placeOf(int i) {
            return places.at(i);
        }

        int add(int n) {
            takings.add(n);
            places.add(NONE);
            return takings.length() - 1;
        }

        int addMandatory(int i) {
            places.put(i, mandatories);
            mandatories++;
            return mandatories;
        }
    }

    /**
     * The rows that were made. Every row gets its kind as it is made: a number that the rows that are
     * the same share, so that sameness is never looked up down the rows.
     */
    private static final class Rows {
        private static final int BUCKETS = 512;
        private static final int FIRST_ROOM = 16;

        private final IntList statements;
        /** Where each row's parts start; one entry more than rows, so that it tells the ends too. */
        private final IntList starts;
        private final IntList parts;
        private final IntList partKinds;
        private final IntList kinds;
        private final IntList firstOfKind;
        private final IntList olderKind;
        private final int[] newestKind;
        private long[] steps;

        Rows() {
            statements = new IntList();
            starts = new IntList();
            starts.add(0);
            parts = new IntList();
            partKinds = new IntList();
            kinds = new IntList();
            firstOfKind = new IntList();
            olderKind = new IntList();
            newestKind = new int[BUCKETS];
            Arrays.fill(newestKind, NONE);
            steps = new long[FIRST_ROOM];
        }

        void forget() {
            statements.cut(0);
            starts.cut(1);
            parts.cut(0);
            partKinds.cut(0);
            kinds.cut(0);
            firstOfKind.cut(0);
            olderKind.cut(0);
            Arrays.fill(newestKind, NONE);
        }

        int amount() {
            return statements.length();
        }

        int amountOfKinds() {
            return firstOfKind.length();
        }

        boolean has(int r) {
            return r >= 0 && r < statements.length();
        }

        int statementOf(int r) {
            return statements.at(r);
        }

        int kindOf(int r) {
            return kinds.at(r);
        }

        int amountOfParts(int r) {
            return has(r) ? starts.at(r + 1) - starts.at(r) : 0;
        }

        int part(int r, int k) {
            return k >= 0 && k < amountOfParts(r) ? parts.at(starts.at(r) + k) : NONE;
        }

        /** A row has its statement as a step at least, so 0 tells that there is no such row. */
        long stepsInFull(int r) {
            return has(r) && r < steps.length ? steps[r] : 0L;
        }

        int add(int statement, IntList pile, int under) {
            int r = amount();
            int start = parts.length();
            for (int k = under; k < pile.length(); k++) {
                parts.add(pile.at(k));
                partKinds.add(kindOf(pile.at(k)));
            }
            starts.add(parts.length());
            statements.add(statement);
            kinds.add(kindOfNewRow(r, start));
            keepSteps(r, countSteps(r));
            return r;
        }

        private int kindOfNewRow(int r, int start) {
            int known = kindMadeOf(statementOf(r), partKinds, start);
            if (known != NONE) {
                return known;
            }
            int kind = amountOfKinds();
            int bucket = bucketOf(statementOf(r), partKinds, start);
            firstOfKind.add(r);
            olderKind.add(newestKind[bucket]);
            newestKind[bucket] = kind;
            return kind;
        }

        /** The kind that a statement makes from the kinds that stand in a list from a place on. */
        int kindMadeOf(int statement, IntList list, int start) {
            int kind = newestKind[bucketOf(statement, list, start)];
            for (int seen = 0; seen < amountOfKinds() && kind != NONE; seen++) {
                if (isMadeOf(kind, statement, list, start)) {
                    return kind;
                }
                kind = olderKind.at(kind);
            }
            return NONE;
        }

        /** The statement settles how many kinds the list has to have from its place on. */
        private boolean isMadeOf(int kind, int statement, IntList list, int start) {
            int r = firstOfKind.at(kind);
            if (statementOf(r) != statement) {
                return false;
            }
            for (int k = 0; k < list.length() - start; k++) {
                if (partKinds.at(starts.at(r) + k) != list.at(start + k)) {
                    return false;
                }
            }
            return true;
        }

        /** BUCKETS is a power of two: the mask keeps every mix, a negative one too, in the array. */
        private int bucketOf(int statement, IntList list, int start) {
            int mix = statement;
            for (int k = start; k < list.length(); k++) {
                mix = 31 * mix + list.at(k);
            }
            return mix & (BUCKETS - 1);
        }

        /** Held at one above what is counted: a sum of sixty such numbers would not fit a long. */
        private long countSteps(int r) {
            long sum = 1L;
            for (int k = 0; k < amountOfParts(r); k++) {
                sum = Math.min(sum + stepsInFull(part(r, k)), MOST_COUNTED + 1L);
            }
            return sum;
        }

        private void keepSteps(int r, long amount) {
            if (r >= steps.length) {
                steps = Arrays.copyOf(steps, 2 * r);
            }
            steps[r] = amount;
        }

        /** Goes down to the row whose own statement is step k; a row comes from older rows alone. */
        int statementInFull(int r, int k) {
            int here = r;
            long left = k;
            for (int level = 0; level < MOST_ROWS && has(here); level++) {
                if (left >= stepsInFull(here) - 1L) {
                    return statementOf(here);
                }
                int place = 0;
                while (place < amountOfParts(here) && left >= stepsInFull(part(here, place))) {
                    left -= stepsInFull(part(here, place));
                    place++;
                }
                here = part(here, place);
            }
            return NONE;
        }
    }

    /**
     * The row that was packed last, as it was told then: statements that become mandatory later
     * change nothing in it.
     */
    private static final class Telling {
        private static final int FIRST_SAVED = -2;
        private static final int MOST_TURNS = 1000000;

        private final Statements statements;
        private final Rows rows;
        private final IntList steps;
        /** By step: NONE, or the number of the saved row that the step's statement makes. */
        private final IntList savedAs;
        private final IntList labels;
        private final LetterList letters;
        private int rowTold;
        private int savedRows;
        /** The rows that are being told, each inside the one before it: own recursion may not go so deep. */
        private final IntList openRows;
        private final IntList openParts;
        /** By kind: the step at which a row of that kind was told first. */
        private final IntList toldAt;
        /** By statement: its number among the letters' numbers, as far as it is known. */
        private final IntList numbers;
        private final IntList remade;
        private final IntList savedKinds;

        Telling(Statements statements, Rows rows) {
            this.statements = statements;
            this.rows = rows;
            steps = new IntList();
            savedAs = new IntList();
            labels = new IntList();
            letters = new LetterList();
            rowTold = NONE;
            savedRows = 0;
            openRows = new IntList();
            openParts = new IntList();
            toldAt = new IntList();
            numbers = new IntList();
            remade = new IntList();
            savedKinds = new IntList();
        }

        void forget() {
            steps.cut(0);
            savedAs.cut(0);
            labels.cut(0);
            letters.forget();
            rowTold = NONE;
            savedRows = 0;
        }

        int amountOfSteps() {
            return steps.length();
        }

        int amountOfLabels() {
            return labels.length();
        }

        int amountOfLetters() {
            return letters.amount();
        }

        int amountOfSaved() {
            return savedRows;
        }

        int stepAt(int k) {
            return steps.at(k);
        }

        boolean isSavedAt(int k) {
            return savedAs.at(k) != NONE;
        }

        int labelAt(int k) {
            return labels.at(k);
        }

        int letterAt(int k) {
            return letters.letterAt(k);
        }

        void tell(int r) {
            forget();
            rowTold = r;
            tellSteps();
            numberSavedRows();
            numberStatements();
            tellLetters();
        }

        private void tellSteps() {
            toldAt.fill(rows.amountOfKinds(), NONE);
            openRows.cut(0);
            openParts.cut(0);
            open(rowTold);
            for (int turn = 0; turn < MOST_TURNS && openRows.length() > 0; turn++) {
                int top = openRows.length() - 1;
                int r = openRows.at(top);
                int place = openParts.at(top);
                if (place < rows.amountOfParts(r)) {
                    openParts.put(top, place + 1);
                    tellPart(rows.part(r, place));
                } else {
                    openRows.cut(top);
                    openParts.cut(top);
                    toldAt.put(rows.kindOf(r), steps.length());
                    addStep(rows.statementOf(r));
                }
            }
        }

        private void open(int r) {
            openRows.add(r);
            openParts.add(0);
        }

        /**
         * Which saved rows there are is known at the end alone, so a row that comes again is told by
         * the step at which it was told first until then.
         */
        private void tellPart(int r) {
            int first = toldAt.at(rows.kindOf(r));
            if (first == NONE || rows.amountOfParts(r) == 0) {
                open(r);
                return;
            }
            savedAs.put(first, 0);
            addStep(FIRST_SAVED - first);
        }

        private void addStep(int told) {
            steps.add(told);
            savedAs.add(NONE);
        }

        private void numberSavedRows() {
            for (int k = 0; k < steps.length(); k++) {
                if (isSavedAt(k)) {
                    savedAs.put(k, savedRows);
                    savedRows++;
                }
                int told = steps.at(k);
                if (told <= FIRST_SAVED) {
                    steps.put(k, FIRST_SAVED - savedAs.at(FIRST_SAVED - told));
                }
            }
        }

        private void numberStatements() {
            numbers.fill(statements.amount(), NONE);
            for (int k = 0; k < steps.length(); k++) {
                int told = steps.at(k);
                if (told > FIRST_SAVED && numbers.at(told) == NONE) {
                    numbers.put(told, numberOfNew(told));
                }
            }
        }

        private int numberOfNew(int statement) {
            if (statements.isMandatory(statement)) {
                return statements.placeOf(statement) + 1;
            }
            labels.add(statement);
            return statements.mandatories() + labels.length();
        }

        private void tellLetters() {
            int behindLabels = statements.mandatories() + labels.length() + 1;
            for (int k = 0; k < steps.length(); k++) {
                int told = steps.at(k);
                if (told <= FIRST_SAVED) {
                    letters.addNumber(behindLabels + FIRST_SAVED - told);
                } else {
                    letters.addNumber(numbers.at(told));
                }
                if (isSavedAt(k)) {
                    letters.addMark();
                }
            }
        }

        /** Nothing packed has no step that could go wrong. */
        boolean makesItsRow() {
            if (rowTold == NONE) {
                return true;
            }
            remade.cut(0);
            savedKinds.cut(0);
            for (int k = 0; k < steps.length(); k++) {
                int under = remade.length() - rowsTakenAt(k);
                int kind = under < 0 ? NONE : kindMadeAt(k, under);
                if (kind == NONE) {
                    return false;
                }
                remade.cut(under);
                remade.add(kind);
                if (isSavedAt(k)) {
                    savedKinds.add(kind);
                }
            }
            return remade.length() == 1 && remade.at(0) == rows.kindOf(rowTold);
        }

        private int rowsTakenAt(int k) {
            int told = steps.at(k);
            return told <= FIRST_SAVED ? 0 : statements.taking(told);
        }

        private int kindMadeAt(int k, int under) {
            int told = steps.at(k);
            if (told <= FIRST_SAVED) {
                return savedKinds.at(FIRST_SAVED - told);
            }
            return rows.kindMadeOf(told, remade, under);
        }
    }

    /** Numbers from 1 on, told by letters, one behind the other. */
    private static final class LetterList {
        private static final int LOW_LETTERS = 20;
        private static final int HIGH_LETTERS = 5;
        /** As many U .. Y as the greatest int would want. */
        private static final int MOST_HIGH = 14;

        private final IntList letters;

        LetterList() {
            letters = new IntList();
        }

        void forget() {
            letters.cut(0);
        }

        int amount() {
            return letters.length();
        }

        int letterAt(int k) {
            return letters.at(k);
        }

        void addMark() {
            letters.add('Z');
        }

        /** The letters come out last one first, and are turned round then. */
        void addNumber(int number) {
            int first = letters.length();
            letters.add('A' + (number - 1) % LOW_LETTERS);
            int left = (number - 1) / LOW_LETTERS;
            for (int high = 0; high < MOST_HIGH && left > 0; high++) {
                letters.add('U' + (left - 1) % HIGH_LETTERS);
                left = (left - 1) / HIGH_LETTERS;
            }
            letters.turnRound(first);
        }
    }
}
