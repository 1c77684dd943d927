import java.util.ArrayList;
import java.util.List;
import java.util.function.Consumer;

// One test for each sentence of the document that names a boundary case: too small, too large, empty,
// full, a wrap-around, a refused call. No object is used for more than the 512 calls that are promised;
// the limits that these can't reach stand in ProofPackerLimits.
public final class ProofPackerEdges {
    private static final int MOST_CALLS = 512;
    private static final int[] FAR = {Integer.MIN_VALUE, Integer.MIN_VALUE + 1, -4000, -61, -3, -2, -1,
        1500, 4000, 20000, Integer.MAX_VALUE - 1, Integer.MAX_VALUE};

    private static int wrong = 0;
    private static String sentence = "";

    public static void main(String[] args) {
        terms();
        changes();
        answersAboutRows();
        answersAboutThePacked();
        answersInFull();
        System.out.println(wrong == 0 ? "all boundary cases hold" : wrong + " answers are not as due");
        if (wrong != 0) {
            System.exit(1);
        }
    }

    private static void terms() {
        statementsTakeNoneToSixty();
        mandatoryInOrder();
        mandatorySixtyAtMost();
        pileOfTwoHundred();
        rowsAreNumberedFromNoneOn();
        takenFromTheTop();
        putOnAgainAtAnyTime();
        sameStatement();
        sameRowsInOrder();
        onlyRowOfThePile();
        rowsFromNoneAreNeverSaved();
        rowsFromOneAreSaved();
        savedRowsAreToldByOneStep();
        savedRowsInTheirOrder();
        labelsEachOnce();
        numbersOfTheThree();
        lettersOneToTwenty();
        lettersBeyondTwenty();
        lettersOfTwoHighOnes();
        lettersOfSavedRowsBeyondTwenty();
        markBehindSavedRows();
        fullWithoutSavedRows();
    }

    private static void changes() {
        newObject();
        statementRefused();
        mandatoryRefused();
        makeWithoutAStatement();
        makeWithTooFewRows();
        makeOnAFullPile();
        againWithoutARow();
        againOnAFullPile();
        clearOfNothing();
        clearOfAll();
        clearForgetsWhatWasTheSame();
        packRefused();
        packAnew();
        packedStays();
    }

    private static void answersAboutRows() {
        countOfOthers();
        countOfDifferentRows();
        rowOutside();
        fromOutside();
        sameOutside();
    }

    private static void answersAboutThePacked() {
        stepOutside();
        savesOutside();
        labelOutside();
        packedOfOthers();
        letterOutside();
        checkOfAll();
    }

    private static void answersInFull() {
        sizeOutside();
        sizeAtItsLimit();
        sizeThatWouldWrapAround();
        fullOutside();
        fullOfMost();
        fullOfMore();
    }

    /** One object, its calls counted. */
    private static final class Run {
        final ProofPacker x = new ProofPacker();
        int calls = 0;

        long call(String name, int... a) {
            calls++;
            if (calls > MOST_CALLS) {
                told("the test goes beyond what is promised: call " + calls, -1, 0);
            }
            switch (name) {
                case "statement": return x.statement(a[0]);
                case "mandatory": return x.mandatory(a[0]);
                case "make": return x.make(a[0]);
                case "again": return x.again(a[0]);
                case "clear": return x.clear();
                case "count": return x.count(a[0]);
                case "row": return x.row(a[0]);
                case "from": return x.from(a[0], a[1]);
                case "same": return x.same(a[0], a[1]);
                case "pack": return x.pack();
                case "step": return x.step(a[0]);
                case "saves": return x.saves(a[0]);
                case "label": return x.label(a[0]);
                case "packed": return x.packed(a[0]);
                case "letter": return x.letter(a[0]);
                case "size": return x.size(a[0]);
                case "full": return x.full(a[0], a[1]);
                case "check": return x.check();
                default: throw new IllegalArgumentException(name);
            }
        }

        void due(long want, String name, int... a) {
            told(written(name, a), call(name, a), want);
        }

        void statements(int... takings) {
            for (int n : takings) {
                call("statement", n);
            }
        }

        void make(int... statements) {
            for (int i : statements) {
                told(written("make", i) + " goes well", call("make", i) >= 0 ? 1 : 0, 1);
            }
        }

        /** The steps, with a star behind those whose row is saved. */
        String steps() {
            StringBuilder text = new StringBuilder();
            for (int k = 0; call("step", k) != -1; k++) {
                text.append(k == 0 ? "" : " ").append(call("step", k)).append(call("saves", k) == 1 ? "*" : "");
            }
            return text.toString();
        }

        String labels() {
            StringBuilder text = new StringBuilder();
            for (int k = 0; call("label", k) != -1; k++) {
                text.append(k == 0 ? "" : " ").append(call("label", k));
            }
            return text.toString();
        }

        String letters() {
            StringBuilder text = new StringBuilder();
            for (long c = call("letter", 0); c != -1; c = call("letter", text.length())) {
                text.append((char) c);
            }
            return text.toString();
        }

        String inFull(int r) {
            StringBuilder text = new StringBuilder();
            long i = call("full", r, 0);
            for (int k = 1; i != -1; k++) {
                text.append(k == 1 ? "" : " ").append(i);
                i = call("full", r, k);
            }
            return text.toString();
        }
    }

    private static String written(String name, int... a) {
        StringBuilder text = new StringBuilder(name).append('(');
        for (int k = 0; k < a.length; k++) {
            text.append(k == 0 ? "" : ", ").append(a[k]);
        }
        return text.append(')').toString();
    }

    private static void told(String call, Object got, Object want) {
        if (!got.toString().equals(want.toString())) {
            wrong++;
            System.out.println("\"" + sentence + "\": " + call + " answered " + got + ", due is " + want);
        }
    }

    /** All that can be asked of an object, read in as many runs of the same calls as it needs. */
    private static final class Reader {
        final Consumer<Run> calls;
        final List<String> answers = new ArrayList<>();
        Run run;

        Reader(Consumer<Run> calls) {
            this.calls = calls;
            anew();
        }

        void anew() {
            run = new Run();
            calls.accept(run);
        }

        long ask(String name, int... a) {
            if (run.calls == MOST_CALLS) {
                anew();
            }
            long got = run.call(name, a);
            answers.add(written(name, a) + " = " + got);
            return got;
        }

        void askAll(String name, int... first) {
            int[] a = first.clone();
            while (ask(name, a) != -1) {
                a[a.length - 1]++;
            }
        }

        List<String> all() {
            for (int what = 0; what <= 6; what++) {
                ask("count", what);
            }
            for (int what = 0; what <= 3; what++) {
                ask("packed", what);
            }
            ask("check");
            askAll("step", 0);
            askAll("saves", 0);
            askAll("label", 0);
            askAll("letter", 0);
            askAll("row", 0);
            askAll("size", 0);
            for (int r = 0; ask("row", r) != -1; r++) {
                askAll("from", r, 0);
                askAll("same", r, 0);
                askAll("full", r, 0);
            }
            pile();
            mandatory();
            return answers;
        }

        /** What is on the pile shows in the rows that are made from it, sixty at a time. */
        void pile() {
            anew();
            for (long left = run.call("count", 3); left > 0; left = left > 60 ? left - 59 : 0) {
                int all = (int) run.call("statement", (int) Math.min(left, 60));
                int made = (int) run.call("make", all);
                answers.add("made from the pile: " + made);
                for (int k = 0; k < 60; k++) {
                    answers.add("on the pile: " + run.call("from", made, k));
                }
            }
        }

        /** Which are mandatory, and in which order, shows in the letters of each by itself. */
        void mandatory() {
            anew();
            long statements = run.call("count", 0);
            for (int i = 0; i < statements; i++) {
                if (run.calls + 4 > MOST_CALLS) {
                    anew();
                }
                run.call("clear");
                run.call("make", i);
                run.call("pack");
                answers.add("letters of statement " + i + ": " + run.letters());
            }
        }
    }

    /** The call is refused, and all that can be asked is as if it had not been called. */
    private static void refused(Consumer<Run> before, String name, int... a) {
        Consumer<Run> behind = run -> {
            before.accept(run);
            run.due(-1, name, a);
        };
        told("what can be asked behind " + written(name, a), new Reader(behind).all(), new Reader(before).all());
    }

    /** Statements 0 and 1 take none, 2 takes two, 3 takes one, 4 takes three; 1 is mandatory. */
    private static Run small() {
        Run run = new Run();
        setUp(run);
        return run;
    }

    private static void setUp(Run run) {
        run.statements(0, 0, 2, 1, 3);
        run.call("mandatory", 1);
    }

    /** Something of everything: rows that are the same, a packed row with a saved one, two on the pile. */
    private static void busy(Run run) {
        setUp(run);
        run.make(0, 1, 2, 0, 1, 2, 2, 3);
        run.call("pack");
        run.call("again", 2);
    }

    // ---- Terms

    private static void statementsTakeNoneToSixty() {
        sentence = "each takes a number of rows, from 0 to 60";
        Run run = new Run();
        run.due(0, "statement", 60);
        run.due(1, "statement", 59);
        run.due(2, "statement", 1);
        run.due(3, "statement", 0);
        run.due(-1, "make", 2);
        for (int r = 0; r < 59; r++) {
            run.due(r, "make", 3);
        }
        run.due(-1, "make", 0);
        run.due(59, "make", 3);
        run.due(60, "make", 0);
        run.due(1, "count", 3);
        for (int k = 0; k < 60; k++) {
            run.due(k, "from", 60, k);
        }
        run.due(-1, "from", 60, 60);
        run.due(61, "size", 60);
        run.due(61, "pack");
    }

    private static void mandatoryInOrder() {
        sentence = "Some that take none are MANDATORY, in order";
        Run run = new Run();
        run.statements(0, 0, 0, 3);
        run.due(1, "mandatory", 2);
        run.due(2, "mandatory", 0);
        run.make(0, 1, 2, 3);
        run.call("pack");
        told("the letters", run.letters(), "BCAD");
        told("the labels", run.labels(), "1 3");
    }

    private static void mandatorySixtyAtMost() {
        sentence = "MANDATORY, in order, 60 at most";
        Run run = sixtyMandatory();
        run.due(60, "count", 1);
        run.due(-1, "mandatory", 60);
        run.due(60, "count", 1);
        run.make(59, 60, 61);
        run.call("pack");
        told("the letters of 60, 61, 62", run.letters(), "VTWAWB");
        told("the labels", run.labels(), "60 61");
    }

    /** Statements 0 .. 59 are mandatory; 60 takes none, 61 takes two. */
    private static Run sixtyMandatory() {
        Run run = new Run();
        fillMandatory(run);
        return run;
    }

    private static void fillMandatory(Run run) {
        for (int i = 0; i <= 60; i++) {
            run.call("statement", 0);
        }
        run.call("statement", 2);
        for (int i = 0; i < 60; i++) {
            run.due(i + 1, "mandatory", i);
        }
    }

    private static void pileOfTwoHundred() {
        sentence = "THE PILE has numbers of ROWS, at most 200";
        Run run = small();
        run.make(0);
        for (int many = 2; many <= 200; many++) {
            run.due(many, "again", 0);
        }
        run.due(200, "count", 3);
        run.due(-1, "again", 0);
        run.due(-1, "make", 0);
        run.due(200, "count", 3);
        run.due(1, "make", 2);
        run.due(199, "count", 3);
        run.due(200, "again", 1);
        run.due(-1, "again", 1);
    }

    private static void rowsAreNumberedFromNoneOn() {
        sentence = "ROWS are numbered from 0 as they are made";
        Run run = small();
        run.due(0, "make", 0);
        run.due(2, "again", 0);
        run.due(1, "make", 2);
        run.due(-1, "make", 2);
        run.due(2, "make", 3);
        run.due(3, "make", 0);
        run.due(4, "count", 2);
    }

    private static void takenFromTheTop() {
        sentence = "takes as many rows off the pile as it wants (the last one's is on top), and is put on; the undermost first";
        Run run = small();
        run.make(0, 1, 0, 1, 2);
        run.due(3, "count", 3);
        run.due(2, "from", 4, 0);
        run.due(3, "from", 4, 1);
        run.make(4);
        run.due(1, "count", 3);
        run.due(0, "from", 5, 0);
        run.due(1, "from", 5, 1);
        run.due(4, "from", 5, 2);
    }

    private static void putOnAgainAtAnyTime() {
        sentence = "A row that was made can be put on the pile again";
        Run run = small();
        run.make(0, 3, 3);
        run.due(1, "count", 3);
        run.due(2, "again", 0);
        run.due(3, "again", 0);
        run.due(4, "again", 2);
        run.due(3, "count", 2);
        run.due(6, "count", 4);
        run.make(4);
        run.due(0, "from", 3, 0);
        run.due(0, "from", 3, 1);
        run.due(2, "from", 3, 2);
    }

    private static void sameStatement() {
        sentence = "Two rows are THE SAME if they are made by the same statement";
        Run run = new Run();
        run.statements(0, 0, 1, 1);
        run.make(0, 0, 1);
        run.due(1, "same", 0, 1);
        run.due(0, "same", 0, 2);
        run.due(0, "same", 2, 1);
        run.call("again", 0);
        run.make(2);
        run.call("again", 1);
        run.make(3);
        run.call("again", 1);
        run.make(2);
        run.due(0, "same", 3, 4);
        run.due(1, "same", 3, 5);
        run.due(0, "same", 0, 3);
    }

    private static void sameRowsInOrder() {
        sentence = "and come from rows that are the same, in order";
        Run run = small();
        run.make(0, 0, 0, 4, 0, 0, 1, 4, 1, 0, 0, 4, 0, 1, 0, 4, 0, 0, 0, 4);
        run.due(0, "same", 3, 7);
        run.due(0, "same", 3, 11);
        run.due(0, "same", 3, 15);
        run.due(0, "same", 7, 11);
        run.due(0, "same", 11, 15);
        run.due(1, "same", 3, 19);
        run.make(3);
        run.call("again", 3);
        run.make(3);
        run.call("again", 7);
        run.make(3);
        run.due(1, "same", 20, 21);
        run.due(0, "same", 20, 22);
    }

    private static void onlyRowOfThePile() {
        sentence = "PACKED, the row on top of the pile (the pile having no others)";
        Run run = small();
        run.due(-1, "pack");
        run.make(0);
        run.due(1, "pack");
        run.make(1);
        run.due(-1, "pack");
        run.make(2);
        run.due(3, "pack");
        told("the steps", run.steps(), "0 1 2");
    }

    private static void rowsFromNoneAreNeverSaved() {
        sentence = "but a row that takes any rows, and is the same as one that was told before, has one step";
        Run run = small();
        run.make(0);
        run.call("again", 0);
        run.call("again", 0);
        run.make(4);
        run.due(4, "pack");
        told("the steps", run.steps(), "0 0 0 4");
        run.due(0, "packed", 2);
        told("the letters", run.letters(), "BBBC");
    }

    private static void rowsFromOneAreSaved() {
        sentence = "a row that takes any rows, and is the same as one that was told before, has one step";
        Run run = small();
        run.make(0, 3, 0, 3, 2);
        run.due(4, "pack");
        told("the steps of two rows that are the same", run.steps(), "0 3* -2 2");
        run.call("clear");
        run.make(0, 3);
        run.call("again", 1);
        run.make(2);
        run.due(4, "pack");
        told("the steps of one row twice", run.steps(), "0 3* -2 2");
    }

    private static void savedRowsAreToldByOneStep() {
        sentence = "it is told by the number of that one, which is SAVED then";
        Run run = small();
        // What is inside a row that comes again is not told again, and not saved by it.
        run.make(0, 3, 1, 2);
        run.call("again", 3);
        run.call("again", 3);
        run.make(4);
        run.due(7, "pack");
        told("the steps", run.steps(), "0 3 1 2* -2 -2 4");
        run.due(1, "packed", 2);
        run.due(1, "check");
    }

    private static void savedRowsInTheirOrder() {
        sentence = "Saved rows are numbered from 0 in the order in which they were told first";
        Run run = small();
        run.make(0, 3, 1, 3);
        run.call("again", 3);
        run.call("again", 1);
        run.make(2, 4);
        run.due(8, "pack");
        told("the steps", run.steps(), "0 3* 1 3* -3 -2 2 4");
        told("the letters", run.letters(), "BCZACZGFDE");
    }

    private static void labelsEachOnce() {
        sentence = "LABELS are statements of steps that are not mandatory, each once, as they come first";
        Run run = small();
        run.make(1);
        run.due(1, "pack");
        told("no labels", run.labels(), "");
        run.make(3, 0, 0, 4, 3);
        run.due(6, "pack");
        told("the labels", run.labels(), "3 0 4");
        run.due(3, "packed", 0);
    }

    private static void numbersOfTheThree() {
        sentence = "mandatory statements have 1, 2 .. in their order, behind them labels in theirs, behind these saved rows";
        Run run = new Run();
        run.statements(0, 0, 0, 1, 2);
        run.call("mandatory", 1);
        run.call("mandatory", 0);
        // A mandatory statement that is no step has its number all the same.
        run.make(2, 3);
        run.call("again", 1);
        run.make(4);
        run.due(4, "pack");
        told("the letters", run.letters(), "CDZFE");
        Run none = new Run();
        none.statements(0);
        none.make(0);
        none.call("pack");
        told("the letters with no mandatory one", none.letters(), "A");
    }

    /** A row from a list of labels, one statement each, in their order, by a statement that takes two. */
    private static Run manyLabels(int many) {
        Run run = new Run();
        for (int i = 0; i < many - 1; i++) {
            run.call("statement", 0);
        }
        int both = (int) run.call("statement", 2);
        run.make(0, 1, both);
        for (int i = 2; i < many - 1; i++) {
            run.make(i, both);
        }
        run.call("pack");
        return run;
    }

    /** The letters of labels in the order of their numbers: of manyLabels, without those of its pairs. */
    private static String written(String... numbers) {
        StringBuilder text = new StringBuilder(numbers[0]).append(numbers[1]).append(numbers[2]);
        for (int k = 3; k < numbers.length; k++) {
            text.append(numbers[k]).append(numbers[2]);
        }
        return text.toString();
    }

    private static void lettersOneToTwenty() {
        sentence = "1 .. 20 are A .. T";
        Run run = manyLabels(20);
        told("the letters of 1 .. 20", run.letters(), written("A", "B", "C", "D", "E", "F", "G", "H", "I", "J",
                "K", "L", "M", "N", "O", "P", "Q", "R", "S", "T"));
        run.due(20, "packed", 0);
    }

    private static void lettersBeyondTwenty() {
        sentence = "greater ones: the letter of the last step of twenty, before it what is left, told by U .. Y";
        String[] want = new String[122];
        String low = "ABCDEFGHIJKLMNOPQRST";
        String[] high = {"", "U", "V", "W", "X", "Y", "UU"};
        for (int number = 1; number <= 122; number++) {
            want[number - 1] = high[(number - 1) / 20] + low.charAt((number - 1) % 20);
        }
        told("number 20", want[19], "T");
        told("number 21", want[20], "UA");
        told("number 40", want[39], "UT");
        told("number 41", want[40], "VA");
        told("number 120", want[119], "YT");
        told("number 121", want[120], "UUA");
        String all = written(want);
        for (int first = 0; first <= all.length(); first += 100) {
            dueLetters(manyLabels(122), all, first, 100);
        }
    }

    private static void dueLetters(Run run, String want, int first, int many) {
        run.due(want.length(), "packed", 1);
        for (int k = first; k < first + many; k++) {
            run.due(k < want.length() ? want.charAt(k) : -1, "letter", k);
        }
    }

    private static void lettersOfTwoHighOnes() {
        sentence = "the last of these is (left - 1) % 5, before it (left - 1) / 5, if that is not 0, likewise";
        Run run = new Run();
        // 60 mandatory ones that are no steps, then 63 labels, then saved rows from 124 on.
        fillMandatory(run);
        for (int i = 0; i < 61; i++) {
            run.call("statement", 0);
        }
        run.make(62, 63, 61);
        for (int i = 64; i < 123; i++) {
            run.make(i, 61);
        }
        int last = (int) run.call("count", 2) - 1;
        StringBuilder want = new StringBuilder();
        // Two saved rows: the row of all labels, and the two of it.
        run.call("again", last);
        run.make(61);
        run.call("again", last + 1);
        run.make(61);
        run.due(2 * 61 - 1 + 4, "pack");
        run.due(62, "packed", 0);
        run.due(2, "packed", 2);
        int letters = (int) run.call("packed", 1);
        // 122 is UUB: the last label; 63 is WC: the statement that takes two; 123 and 124: UUC, UUD.
        want.append("UUB").append("WCZ").append("UUC").append("WCZ").append("UUD").append("WC");
        for (int k = 0; k < want.length(); k++) {
            run.due(want.charAt(k), "letter", letters - want.length() + k);
        }
        run.due(-1, "letter", letters);
    }

    private static void lettersOfSavedRowsBeyondTwenty() {
        sentence = "behind these saved rows; 1 .. 20 are A .. T, greater ones";
        Run run = new Run();
        run.statements(0, 2);
        run.make(0);
        for (int r = 0; r < 120; r++) {
            run.call("again", r);
            run.make(1);
        }
        // Saved row n has number n + 3: A B are labels' and the row itself is no saved one.
        run.due(2 * 120 + 1, "pack");
        run.due(119, "packed", 2);
        run.due(-2 - 118, "step", 239);
        run.due(-2, "step", 3);
        int letters = (int) run.call("packed", 1);
        String want = "YSBZ" + "YTBZ" + "UUAB";
        for (int k = 0; k < want.length(); k++) {
            run.due(want.charAt(k), "letter", letters - want.length() + k);
        }
        String first = "AABZCBZDBZ";
        for (int k = 0; k < first.length(); k++) {
            run.due(first.charAt(k), "letter", k);
        }
    }

    private static void markBehindSavedRows() {
        sentence = "Z stands behind the statement of a row that is saved";
        Run run = small();
        run.make(0, 3, 3);
        run.call("again", 2);
        run.call("again", 1);
        run.make(4);
        run.call("pack");
        told("the letters: behind the statement, not behind the number", run.letters(), "BCZCZFED");
        run.due(8, "packed", 1);
        run.call("clear");
        run.make(0, 3);
        run.call("pack");
        told("the letters of a row that comes once", run.letters(), "BC");
    }

    private static void fullWithoutSavedRows() {
        sentence = "IN FULL are all steps without saved rows";
        Run run = small();
        run.make(0, 3);
        run.call("again", 1);
        run.call("again", 1);
        run.make(4);
        run.call("pack");
        told("the steps", run.steps(), "0 3* -2 -2 4");
        told("all steps", run.inFull(2), "0 3 0 3 0 3 4");
        run.due(7, "size", 2);
    }

    // ---- What changes an object

    private static void newObject() {
        sentence = "A new object: No statements, no rows";
        List<String> want = new ArrayList<>();
        for (int what = 0; what <= 6; what++) {
            want.add("count(" + what + ") = " + (what == 6 ? -1 : 0));
        }
        for (int what = 0; what <= 3; what++) {
            want.add("packed(" + what + ") = " + (what == 3 ? -1 : 0));
        }
        want.add("check() = 1");
        for (String name : new String[] {"step", "saves", "label", "letter", "row", "size", "row"}) {
            want.add(name + "(0) = -1");
        }
        told("all that can be asked", new Reader(run -> { }).all(), want);
        String[] refusing = {"make", "again", "mandatory"};
        for (String name : refusing) {
            refused(run -> { }, name, 0);
        }
        refused(run -> { }, "pack");
    }

    private static void statementRefused() {
        sentence = "statement: NONE when n is not 0 .. 60";
        refused(ProofPackerEdges::busy, "statement", -1);
        refused(ProofPackerEdges::busy, "statement", 61);
        for (int n : FAR) {
            refused(ProofPackerEdges::busy, "statement", n);
        }
        Run run = new Run();
        run.due(-1, "statement", 61);
        run.due(0, "statement", 0);
        run.due(-1, "statement", -1);
        run.due(1, "statement", 60);
    }

    private static void mandatoryRefused() {
        sentence = "mandatory: NONE when there is no such statement";
        refused(ProofPackerEdges::busy, "mandatory", 5);
        for (int i : FAR) {
            refused(ProofPackerEdges::busy, "mandatory", i);
        }
        sentence = "mandatory: NONE when it takes rows";
        refused(ProofPackerEdges::busy, "mandatory", 3);
        refused(ProofPackerEdges::busy, "mandatory", 2);
        sentence = "mandatory: NONE when it is already";
        refused(ProofPackerEdges::busy, "mandatory", 1);
        Run run = small();
        run.due(-1, "mandatory", 1);
        run.due(2, "mandatory", 0);
        run.due(-1, "mandatory", 1);
        run.due(-1, "mandatory", 0);
        sentence = "mandatory: NONE when 60 are";
        refused(ProofPackerEdges::fillMandatory, "mandatory", 60);
        refused(ProofPackerEdges::fillMandatory, "mandatory", 0);
        Run full = sixtyMandatory();
        full.call("clear");
        full.due(-1, "mandatory", 60);
    }

    private static void makeWithoutAStatement() {
        sentence = "make: NONE, and nothing is done, when there is no such statement";
        refused(ProofPackerEdges::busy, "make", 5);
        for (int i : FAR) {
            refused(ProofPackerEdges::busy, "make", i);
        }
    }

    private static void makeWithTooFewRows() {
        sentence = "make: NONE, and nothing is done, when the pile has too few rows";
        // Two rows are on the pile: one too few, and just as many as are wanted.
        refused(ProofPackerEdges::busy, "make", 4);
        Run run = new Run();
        busy(run);
        run.due(8, "make", 2);
        run.due(7, "from", 8, 0);
        run.due(2, "from", 8, 1);
        refused(ProofPackerEdges::setUp, "make", 3);
        refused(ProofPackerEdges::fiftyNine, "make", 1);
        Run many = new Run();
        fiftyNine(many);
        many.make(0);
        many.due(60, "make", 1);
    }

    /** 59 rows on the pile; statement 1 takes 60. */
    private static void fiftyNine(Run run) {
        run.statements(0, 60);
        for (int r = 0; r < 59; r++) {
            run.make(0);
        }
    }

    /** 200 rows on the pile, by nine that were made; statement 3 takes one, 0 none. */
    private static void fullPile(Run run) {
        busy(run);
        run.make(0);
        for (int many = 4; many <= 200; many++) {
            run.call("again", many % 9);
        }
    }

    private static void makeOnAFullPile() {
        sentence = "make: NONE, and nothing is done, when there would be more rows on the pile than there may be";
        refused(ProofPackerEdges::fullPile, "make", 0);
        refused(ProofPackerEdges::fullPile, "make", 1);
        Run run = new Run();
        fullPile(run);
        run.due(200, "count", 3);
        // What takes a row leaves room for the one that it makes.
        run.due(9, "make", 3);
        run.due(200, "count", 3);
        run.due(-1, "make", 0);
        run.due(10, "make", 2);
        run.due(199, "count", 3);
        run.due(11, "make", 0);
        run.due(200, "count", 3);
        run.due(-1, "make", 0);
    }

    private static void againWithoutARow() {
        sentence = "again: NONE, and nothing is done, when there is no such row";
        refused(ProofPackerEdges::busy, "again", 8);
        for (int r : FAR) {
            refused(ProofPackerEdges::busy, "again", r);
        }
        refused(ProofPackerEdges::setUp, "again", 0);
        refused(run -> {
            busy(run);
            run.call("clear");
        }, "again", 0);
    }

    private static void againOnAFullPile() {
        sentence = "again: NONE, and nothing is done, when .. likewise (a full pile)";
        refused(ProofPackerEdges::fullPile, "again", 0);
        refused(ProofPackerEdges::fullPile, "again", 8);
        Run run = new Run();
        fullPile(run);
        run.make(2);
        run.due(200, "again", 0);
        run.due(-1, "again", 0);
    }

    private static void clearOfNothing() {
        sentence = "clear: how many rows there were (none)";
        Run run = new Run();
        run.due(0, "clear");
        run.due(0, "statement", 0);
        run.due(0, "clear");
        run.due(1, "count", 0);
        run.make(0);
        run.call("again", 0);
        run.due(1, "clear");
        run.due(0, "clear");
    }

    private static void clearOfAll() {
        sentence = "clear: No rows, nothing on the pile, nothing packed; statements stay";
        Consumer<Run> cleared = run -> {
            busy(run);
            run.due(8, "clear");
        };
        told("all that can be asked", new Reader(cleared).all(), new Reader(ProofPackerEdges::setUp).all());
        Run full = new Run();
        fullPile(full);
        full.due(9, "clear");
        full.due(0, "make", 0);
        for (int many = 2; many <= 200; many++) {
            full.due(many, "again", 0);
        }
        full.due(-1, "again", 0);
    }

    private static void clearForgetsWhatWasTheSame() {
        sentence = "clear: No rows";
        Run run = small();
        run.make(0, 3, 0, 3, 2);
        run.due(4, "pack");
        run.call("clear");
        run.make(1, 3);
        run.due(2, "count", 5);
        run.due(2, "pack");
        told("the steps", run.steps(), "1 3");
        told("the letters", run.letters(), "AB");
        run.call("clear");
        run.make(0, 3);
        run.due(2, "size", 1);
        run.due(0, "same", 0, 1);
        run.due(2, "pack");
        run.due(1, "check");
        run.due(-1, "step", 2);
        run.due(0, "saves", 1);
        // Rows of the same numbers as before, others of them the same.
        run.call("clear");
        run.make(0, 1, 1);
        run.due(0, "same", 0, 1);
        run.due(1, "same", 1, 2);
        run.due(2, "count", 5);
        run.call("clear");
        run.make(0, 0, 1);
        run.due(1, "same", 0, 1);
        run.due(0, "same", 1, 2);
        run.due(2, "count", 5);
    }

    private static void packRefused() {
        sentence = "pack: NONE, and what was packed stays, when there is not just one row on the pile";
        refused(ProofPackerEdges::busy, "pack");
        refused(ProofPackerEdges::setUp, "pack");
        refused(ProofPackerEdges::fullPile, "pack");
        refused(run -> {
            busy(run);
            run.call("clear");
        }, "pack");
        Run run = new Run();
        busy(run);
        run.due(-1, "pack");
        told("the steps that stay", run.steps(), "0 1 2* -2 2 3");
        told("the labels that stay", run.labels(), "0 2 3");
        told("the letters that stay", run.letters(), "BACZECD");
        run.due(1, "check");
    }

    private static void packAnew() {
        sentence = "Packs: how many steps there are";
        Run run = new Run();
        busy(run);
        run.make(2);
        run.due(8, "pack");
        told("the longer steps", run.steps(), "0 1 2* -2 2 3 -2 2");
        run.due(8, "pack");
        run.due(1, "packed", 2);
        run.call("clear");
        run.make(1);
        run.due(1, "pack");
        told("the shorter steps", run.steps(), "1");
        told("the shorter letters", run.letters(), "A");
        told("the labels", run.labels(), "");
        run.due(0, "packed", 2);
        run.due(0, "saves", 0);
        run.due(1, "check");
    }

    private static void packedStays() {
        sentence = "what was packed";
        Consumer<Run> packedThen = run -> {
            busy(run);
            run.call("mandatory", 0);
            run.call("statement", 0);
            run.make(0, 3);
        };
        Run run = new Run();
        packedThen.accept(run);
        told("the steps", run.steps(), "0 1 2* -2 2 3");
        told("the labels", run.labels(), "0 2 3");
        told("the letters", run.letters(), "BACZECD");
        run.due(3, "packed", 0);
        run.due(7, "packed", 1);
        run.due(1, "packed", 2);
        run.due(1, "check");
    }

    // ---- What is answered about rows

    private static void countOfOthers() {
        sentence = "count: NONE for others";
        Run run = new Run();
        busy(run);
        long[] want = {5, 1, 8, 2, 9, 5};
        for (int what = 0; what < want.length; what++) {
            run.due(want[what], "count", what);
        }
        run.due(-1, "count", 6);
        for (int what : FAR) {
            run.due(-1, "count", what);
        }
    }

    private static void countOfDifferentRows() {
        sentence = "count: different rows that are not the same (5)";
        Run run = small();
        run.due(0, "count", 5);
        run.make(0);
        run.due(1, "count", 5);
        run.call("again", 0);
        run.due(1, "count", 5);
        run.make(0);
        run.due(1, "count", 5);
        run.make(2);
        run.due(2, "count", 5);
        run.call("again", 1);
        run.call("again", 0);
        run.make(2);
        run.due(2, "count", 5);
        run.make(1);
        run.due(3, "count", 5);
    }

    private static void outside(Run run, String name, int length) {
        run.due(-1, name, length);
        run.due(-1, name, length + 1);
        for (int k : FAR) {
            run.due(-1, name, k);
        }
    }

    private static void rowOutside() {
        sentence = "row: NONE when there is none such";
        Run run = new Run();
        busy(run);
        run.due(0, "row", 0);
        run.due(3, "row", 7);
        outside(run, "row", 8);
        run.call("clear");
        outside(run, "row", 0);
    }

    private static void fromOutside() {
        sentence = "from: NONE when there is none such";
        Run run = new Run();
        busy(run);
        run.due(2, "from", 6, 0);
        run.due(5, "from", 6, 1);
        run.due(-1, "from", 6, 2);
        run.due(6, "from", 7, 0);
        run.due(-1, "from", 7, 1);
        run.due(-1, "from", 8, 0);
        run.due(-1, "from", 0, 0);
        // Rows made later must not show through behind a row's last place.
        for (int k = 2; k <= 9; k++) {
            run.due(-1, "from", 2, k);
        }
        for (int k : FAR) {
            run.due(-1, "from", 6, k);
            run.due(-1, "from", 7, k);
            run.due(-1, "from", 0, k);
            run.due(-1, "from", k, 0);
            run.due(-1, "from", k, k);
        }
        run.call("clear");
        run.due(-1, "from", 6, 0);
    }

    private static void sameOutside() {
        sentence = "same: NONE when there are no such ones";
        Run run = new Run();
        busy(run);
        run.due(1, "same", 7, 7);
        run.due(-1, "same", 7, 8);
        run.due(-1, "same", 8, 7);
        run.due(-1, "same", 8, 8);
        for (int r : FAR) {
            run.due(-1, "same", r, 0);
            run.due(-1, "same", 0, r);
            run.due(-1, "same", r, r);
        }
        run.call("clear");
        run.due(-1, "same", 0, 0);
    }

    // ---- What is answered about the packed

    private static void stepOutside() {
        sentence = "step: NONE when there is none such";
        Run run = new Run();
        busy(run);
        run.due(0, "step", 0);
        run.due(-2, "step", 3);
        run.due(3, "step", 5);
        outside(run, "step", 6);
        run.call("clear");
        outside(run, "step", 0);
    }

    private static void savesOutside() {
        sentence = "saves: 1, 0; NONE when there is none such";
        Run run = new Run();
        busy(run);
        int[] want = {0, 0, 1, 0, 0, 0};
        for (int k = 0; k < want.length; k++) {
            run.due(want[k], "saves", k);
        }
        outside(run, "saves", 6);
        run.call("clear");
        outside(run, "saves", 0);
    }

    private static void labelOutside() {
        sentence = "label: NONE when there is none such";
        Run run = new Run();
        busy(run);
        run.due(0, "label", 0);
        run.due(3, "label", 2);
        outside(run, "label", 3);
        run.call("clear");
        outside(run, "label", 0);
    }

    private static void packedOfOthers() {
        sentence = "packed: NONE for others";
        Run run = new Run();
        busy(run);
        run.due(3, "packed", 0);
        run.due(7, "packed", 1);
        run.due(1, "packed", 2);
        outside(run, "packed", 3);
        run.call("clear");
        for (int what = 0; what <= 2; what++) {
            run.due(0, "packed", what);
        }
        outside(run, "packed", 3);
    }

    private static void letterOutside() {
        sentence = "letter: NONE when there is none such";
        Run run = new Run();
        busy(run);
        run.due('B', "letter", 0);
        run.due('D', "letter", 6);
        outside(run, "letter", 7);
        run.call("clear");
        outside(run, "letter", 0);
    }

    private static void checkOfAll() {
        sentence = "Whether the steps that were packed, gone through, make the row that was packed: 1";
        Run run = small();
        run.due(1, "check");
        run.make(0);
        run.due(1, "check");
        run.call("pack");
        run.due(1, "check");
        for (int r = 0; r < 100; r++) {
            run.call("again", r);
            run.make(2);
        }
        run.due(1, "check");
        run.due(201, "pack");
        run.due(1, "check");
        run.make(0);
        run.due(-1, "pack");
        run.due(1, "check");
        run.call("clear");
        run.due(1, "check");
        checkOfOneAfterAnother();
    }

    /** Each with another saved row: none that was packed before may show through. */
    private static void checkOfOneAfterAnother() {
        Run run = small();
        run.make(0, 3);
        run.call("again", 1);
        run.make(2);
        run.due(4, "pack");
        run.due(1, "check");
        run.due(1, "check");
        run.call("clear");
        run.make(0, 0, 1, 4);
        run.call("again", 3);
        run.make(2);
        run.due(6, "pack");
        run.due(1, "check");
        run.make(0, 2);
        run.call("again", 6);
        run.make(2);
        run.due(10, "pack");
        run.due(1, "check");
        run.call("clear");
        run.make(1, 3);
        run.due(2, "pack");
        run.due(1, "check");
    }

    // ---- What is answered in full

    private static void sizeOutside() {
        sentence = "size: NONE when there is no such row";
        Run run = new Run();
        busy(run);
        run.due(1, "size", 0);
        run.due(8, "size", 7);
        outside(run, "size", 8);
        run.call("clear");
        outside(run, "size", 0);
    }

    /** Makes a row of n steps from row 0 of one step: the last row that is made. */
    private static int rowOfSteps(Run run, long n) {
        List<Boolean> ways = new ArrayList<>();
        for (long left = n; left > 1; left = left % 2 == 1 ? (left - 1) / 2 : left - 1) {
            ways.add(left % 2 == 1);
        }
        int r = (int) run.call("make", 0);
        for (int way = ways.size() - 1; way >= 0; way--) {
            if (ways.get(way)) {
                run.call("again", r);
            }
            r = (int) run.call("make", ways.get(way) ? 2 : 3);
        }
        return r;
    }

    private static void sizeAtItsLimit() {
        sentence = "size: -2 when they are more than 10^18";
        long most = 1000000000000000000L;
        for (long n = most - 2; n <= most + 2; n++) {
            Run run = small();
            int r = rowOfSteps(run, n);
            run.due(n <= most ? n : -2, "size", r);
        }
        Run run = small();
        int r = rowOfSteps(run, most);
        run.due(r + 1, "make", 3);
        run.due(-2, "size", r + 1);
        run.due(most, "size", r);
        run.due(-1, "size", r + 2);
    }

    private static void sizeThatWouldWrapAround() {
        sentence = "size: -2 when they are more than 10^18 (and more than a long holds)";
        Run twice = small();
        twice.make(0);
        for (int r = 1; r <= 150; r++) {
            twice.call("again", r - 1);
            twice.make(2);
            twice.due(r < 59 ? (1L << r + 1) - 1 : -2, "size", r);
        }
        // Sixty at a time: 1, 61, 3661 ..
        Run sixty = new Run();
        sixty.statements(0, 60);
        sixty.make(0);
        long steps = 1;
        for (int r = 1; r <= 7; r++) {
            for (int k = 1; k < 60; k++) {
                sixty.call("again", r - 1);
            }
            sixty.make(1);
            steps = 60 * steps + 1;
            sixty.due(steps, "size", r);
        }
        // Seven times sixty took most of the calls: the last great row goes by halves, then by sixty.
        Run sums = small();
        int all = (int) sums.call("statement", 60);
        int great = rowOfSteps(sums, 999999999999999999L);
        for (int k = 1; k < 60; k++) {
            sums.call("again", great);
        }
        sums.due(great + 1, "make", all);
        sums.due(-2, "size", great + 1);
        sums.due(-1, "full", great + 1, 0);
        sizeThatComesRoundToLittle();
    }

    /** Ten times n are 2^63 + 2, twenty times 2^64 + 4: a long would tell less than none, and five. */
    private static void sizeThatComesRoundToLittle() {
        long n = 922337203685477581L;
        Run run = small();
        int ten = (int) run.call("statement", 10);
        int twenty = (int) run.call("statement", 20);
        int r = rowOfSteps(run, n);
        for (int k = 1; k < 10; k++) {
            run.call("again", r);
        }
        run.due(r + 1, "make", ten);
        run.due(-2, "size", r + 1);
        for (int k = 0; k < 20; k++) {
            run.call("again", r);
        }
        run.due(r + 2, "make", twenty);
        run.due(-2, "size", r + 2);
        run.due(-1, "full", r + 2, 0);
        run.due(r + 3, "make", 3);
        run.due(-2, "size", r + 3);
        run.due(n, "size", r);
    }

    private static void fullOutside() {
        sentence = "full: NONE when there is none such";
        Run run = new Run();
        busy(run);
        told("all steps", run.inFull(7), "0 1 2 0 1 2 2 3");
        run.due(3, "full", 7, 7);
        run.due(-1, "full", 7, 8);
        run.due(0, "full", 0, 0);
        run.due(-1, "full", 0, 1);
        run.due(-1, "full", 8, 0);
        for (int k : FAR) {
            run.due(-1, "full", 7, k);
            run.due(-1, "full", 0, k);
            run.due(-1, "full", k, 0);
            run.due(-1, "full", k, k);
        }
        run.call("clear");
        run.due(-1, "full", 0, 0);
    }

    private static void fullOfMost() {
        sentence = "full: The statement of step k of row r in full .. (4000 steps)";
        Run run = small();
        int r = rowOfSteps(run, 4000);
        run.due(4000, "size", r);
        run.due(0, "full", r, 0);
        run.due(3, "full", r, 3999);
        run.due(2, "full", r, 3998);
        run.due(-1, "full", r, 4000);
        run.due(-1, "full", r, -1);
        run.due(-1, "full", r, Integer.MAX_VALUE);
    }

    private static void fullOfMore() {
        sentence = "full: NONE when .. it has more than 4000";
        Run run = small();
        int r = rowOfSteps(run, 4001);
        run.due(4001, "size", r);
        run.due(-1, "full", r, 0);
        run.due(-1, "full", r, 3999);
        run.due(-1, "full", r, 4000);
        run.due(-1, "full", r, 4001);
        run.due(0, "full", r - 1, 0);
        Run great = small();
        int more = rowOfSteps(great, 1000000000000000001L);
        great.due(-2, "size", more);
        great.due(-1, "full", more, 0);
        great.due(-1, "full", more, 3999);
        great.due(-1, "full", more, -1);
    }
}
