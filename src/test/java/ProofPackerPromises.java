// For each promise of the document: ordinary inputs, its edges and wrong inputs.
public final class ProofPackerPromises {
    private static final int[] WRONG = {-1, -2, -3, Integer.MIN_VALUE, Integer.MAX_VALUE, 1500, 4000};

    private static int wrong = 0;
    private static int promise = 0;

    private static void due(String call, long got, long want) {
        if (got != want) {
            wrong++;
            System.out.println("promise " + promise + ": " + call + " answered " + got + ", due is " + want);
        }
    }

    public static void main(String[] args) {
        newObject();
        statement();
        mandatory();
        makeAndItsParts();
        makeAtTheLimitsOfThePile();
        again();
        clear();
        count();
        row();
        from();
        same();
        sameOfOrderAndDepth();
        pack();
        packRefused();
        packStaysAsItWas();
        step();
        saves();
        savedRowsAreNumberedAsTold();
        label();
        packed();
        letter();
        lettersOfGreatNumbers();
        size();
        sizeAtItsLimit();
        full();
        fullAtItsLimit();
        check();
        deepRows();
        System.out.println(wrong == 0 ? "all promises hold" : wrong + " answers are not as due");
        if (wrong != 0) {
            System.exit(1);
        }
    }

    /** Statements 0 and 1 take none, 2 takes two, 3 takes one, 4 takes three; 0 is mandatory. */
    private static ProofPacker small() {
        ProofPacker x = new ProofPacker();
        x.statement(0);
        x.statement(0);
        x.statement(2);
        x.statement(1);
        x.statement(3);
        x.mandatory(0);
        return x;
    }

    private static void makeAll(ProofPacker x, int... statements) {
        for (int i : statements) {
            if (x.make(i) == ProofPacker.NONE) {
                due("make(" + i + ") of a run that goes well", ProofPacker.NONE, 0);
            }
        }
    }

    private static String steps(ProofPacker x) {
        StringBuilder told = new StringBuilder();
        for (int k = 0; x.step(k) != ProofPacker.NONE; k++) {
            told.append(k == 0 ? "" : " ").append(x.step(k)).append(x.saves(k) == 1 ? "*" : "");
        }
        return told.toString();
    }

    private static String letters(ProofPacker x) {
        StringBuilder told = new StringBuilder();
        for (int k = 0; x.letter(k) != ProofPacker.NONE; k++) {
            told.append((char) x.letter(k));
        }
        return told.toString();
    }

    private static void dueText(String call, String got, String want) {
        if (!got.equals(want)) {
            wrong++;
            System.out.println("promise " + promise + ": " + call + " is " + got + ", due is " + want);
        }
    }

    private static void newObject() {
        promise = 1;
        ProofPacker x = new ProofPacker();
        for (int what = 0; what <= 5; what++) {
            due("count(" + what + ")", x.count(what), 0);
        }
        for (int what = 0; what <= 2; what++) {
            due("packed(" + what + ")", x.packed(what), 0);
        }
        due("row(0)", x.row(0), -1);
        due("from(0, 0)", x.from(0, 0), -1);
        due("same(0, 0)", x.same(0, 0), -1);
        due("step(0)", x.step(0), -1);
        due("saves(0)", x.saves(0), -1);
        due("label(0)", x.label(0), -1);
        due("letter(0)", x.letter(0), -1);
        due("size(0)", x.size(0), -1);
        due("full(0, 0)", x.full(0, 0), -1);
        due("pack()", x.pack(), -1);
        due("check()", x.check(), 1);
        due("clear()", x.clear(), 0);
        due("NONE", ProofPacker.NONE, -1);
        ProofPacker other = new ProofPacker();
        other.statement(0);
        due("count(0) of another object", x.count(0), 0);
    }

    private static void statement() {
        promise = 2;
        ProofPacker x = new ProofPacker();
        due("statement(0)", x.statement(0), 0);
        due("statement(60)", x.statement(60), 1);
        due("statement(61)", x.statement(61), -1);
        for (int n : WRONG) {
            due("statement(" + n + ")", x.statement(n), -1);
        }
        due("count(0)", x.count(0), 2);
        due("statement(1)", x.statement(1), 2);
        for (int i = 3; i < 480; i++) {
            due("statement(0)", x.statement(0), i);
        }
        due("count(0)", x.count(0), 480);
    }

    private static void mandatory() {
        promise = 3;
        ProofPacker x = new ProofPacker();
        due("mandatory(0)", x.mandatory(0), -1);
        x.statement(1);
        due("mandatory(0) that takes one", x.mandatory(0), -1);
        for (int i = 1; i <= 61; i++) {
            x.statement(0);
        }
        for (int i : WRONG) {
            due("mandatory(" + i + ")", x.mandatory(i), -1);
        }
        due("mandatory(62)", x.mandatory(62), -1);
        for (int many = 1; many <= 60; many++) {
            due("mandatory(" + (62 - many) + ")", x.mandatory(62 - many), many);
            due("mandatory again", x.mandatory(62 - many), -1);
        }
        due("mandatory(1) as the 61st", x.mandatory(1), -1);
        due("count(1)", x.count(1), 60);
    }

    private static void makeAndItsParts() {
        promise = 4;
        ProofPacker x = small();
        for (int i : WRONG) {
            due("make(" + i + ")", x.make(i), -1);
        }
        due("make(5)", x.make(5), -1);
        due("make(3)", x.make(3), -1);
        due("make(0)", x.make(0), 0);
        due("make(2)", x.make(2), -1);
        due("make(1)", x.make(1), 1);
        due("make(4)", x.make(4), -1);
        due("count(2)", x.count(2), 2);
        due("count(3)", x.count(3), 2);
        due("count(4)", x.count(4), 2);
        due("make(0)", x.make(0), 2);
        due("make(2)", x.make(2), 3);
        due("count(3)", x.count(3), 2);
        due("from(3, 0)", x.from(3, 0), 1);
        due("from(3, 1)", x.from(3, 1), 2);
        due("make(2)", x.make(2), 4);
        due("from(4, 0)", x.from(4, 0), 0);
        due("from(4, 1)", x.from(4, 1), 3);
        due("count(3)", x.count(3), 1);
        due("count(4)", x.count(4), 5);
    }

    private static void makeAtTheLimitsOfThePile() {
        promise = 4;
        ProofPacker x = small();
        x.statement(60);
        for (int r = 0; r < 200; r++) {
            due("make(0)", x.make(0), r);
        }
        due("make(0) on a full pile", x.make(0), -1);
        due("make(1) on a full pile", x.make(1), -1);
        due("again(0) on a full pile", x.again(0), -1);
        due("count(2)", x.count(2), 200);
        due("count(3)", x.count(3), 200);
        due("count(4)", x.count(4), 200);
        due("make(3) on a full pile", x.make(3), 200);
        due("count(3)", x.count(3), 200);
        due("make(5) on a full pile", x.make(5), 201);
        due("count(3)", x.count(3), 141);
        due("from(201, 0)", x.from(201, 0), 140);
        due("from(201, 58)", x.from(201, 58), 198);
        due("from(201, 59)", x.from(201, 59), 200);
        due("from(201, 60)", x.from(201, 60), -1);
        due("size(201)", x.size(201), 62);
    }

    private static void again() {
        promise = 5;
        ProofPacker x = small();
        due("again(0)", x.again(0), -1);
        makeAll(x, 0, 3);
        for (int r : WRONG) {
            due("again(" + r + ")", x.again(r), -1);
        }
        due("again(2)", x.again(2), -1);
        due("count(3)", x.count(3), 1);
        due("count(4)", x.count(4), 2);
        due("again(0)", x.again(0), 2);
        due("again(1)", x.again(1), 3);
        due("count(2)", x.count(2), 2);
        due("count(4)", x.count(4), 4);
        due("make(4)", x.make(4), 2);
        due("from(2, 0)", x.from(2, 0), 1);
        due("from(2, 1)", x.from(2, 1), 0);
        due("from(2, 2)", x.from(2, 2), 1);
        for (int many = 2; many <= 200; many++) {
            due("again(2)", x.again(2), many);
        }
        due("again(2) on a full pile", x.again(2), -1);
        due("count(3)", x.count(3), 200);
        due("count(4)", x.count(4), 204);
    }

    private static void clear() {
        promise = 6;
        ProofPacker x = small();
        makeAll(x, 0, 1, 2);
        x.again(2);
        makeAll(x, 2);
        x.pack();
        due("clear()", x.clear(), 4);
        due("count(0)", x.count(0), 5);
        due("count(1)", x.count(1), 1);
        for (int what = 2; what <= 5; what++) {
            due("count(" + what + ")", x.count(what), 0);
        }
        for (int what = 0; what <= 2; what++) {
            due("packed(" + what + ")", x.packed(what), 0);
        }
        due("row(0)", x.row(0), -1);
        due("from(2, 0)", x.from(2, 0), -1);
        due("same(0, 0)", x.same(0, 0), -1);
        due("size(0)", x.size(0), -1);
        due("full(0, 0)", x.full(0, 0), -1);
        due("step(0)", x.step(0), -1);
        due("saves(0)", x.saves(0), -1);
        due("label(0)", x.label(0), -1);
        due("letter(0)", x.letter(0), -1);
        due("again(0)", x.again(0), -1);
        due("pack()", x.pack(), -1);
        due("check()", x.check(), 1);
        due("clear()", x.clear(), 0);
        due("make(1)", x.make(1), 0);
        due("make(3)", x.make(3), 1);
        due("from(1, 0)", x.from(1, 0), 0);
        due("count(5)", x.count(5), 2);
        due("size(1)", x.size(1), 2);
        due("pack()", x.pack(), 2);
        dueText("the steps", steps(x), "1 3");
        dueText("the letters", letters(x), "BC");
    }

    private static void count() {
        promise = 7;
        ProofPacker x = small();
        makeAll(x, 0, 0, 2, 0, 0, 2);
        x.again(2);
        long[] want = {5, 1, 6, 3, 7, 2};
        for (int what = 0; what < want.length; what++) {
            due("count(" + what + ")", x.count(what), want[what]);
        }
        due("count(6)", x.count(6), -1);
        for (int what : WRONG) {
            due("count(" + what + ")", x.count(what), -1);
        }
    }

    private static void row() {
        promise = 8;
        ProofPacker x = small();
        makeAll(x, 1, 0, 2, 3);
        int[] want = {1, 0, 2, 3, -1};
        for (int r = 0; r < want.length; r++) {
            due("row(" + r + ")", x.row(r), want[r]);
        }
        for (int r : WRONG) {
            due("row(" + r + ")", x.row(r), -1);
        }
    }

    private static void from() {
        promise = 9;
        ProofPacker x = small();
        makeAll(x, 0, 0, 1, 4, 3);
        due("from(3, 0)", x.from(3, 0), 0);
        due("from(3, 1) is the row itself, not the first that is the same", x.from(3, 1), 1);
        due("from(3, 2)", x.from(3, 2), 2);
        due("from(3, 3)", x.from(3, 3), -1);
        due("from(4, 0)", x.from(4, 0), 3);
        due("from(4, 1)", x.from(4, 1), -1);
        due("from(0, 0)", x.from(0, 0), -1);
        due("from(5, 0)", x.from(5, 0), -1);
        for (int k : WRONG) {
            due("from(3, " + k + ")", x.from(3, k), -1);
            due("from(4, " + k + ")", x.from(4, k), -1);
            due("from(" + k + ", 0)", x.from(k, 0), -1);
        }
    }

    private static void same() {
        promise = 10;
        ProofPacker x = small();
        makeAll(x, 0, 0, 2, 0, 0, 2, 1);
        due("same(0, 3)", x.same(0, 3), 1);
        due("same(0, 6)", x.same(0, 6), 0);
        due("same(2, 5)", x.same(2, 5), 1);
        due("same(5, 2)", x.same(5, 2), 1);
        due("same(2, 2)", x.same(2, 2), 1);
        due("same(0, 2)", x.same(0, 2), 0);
        due("same(0, 7)", x.same(0, 7), -1);
        due("same(7, 0)", x.same(7, 0), -1);
        due("same(7, 7)", x.same(7, 7), -1);
        for (int r : WRONG) {
            due("same(" + r + ", 0)", x.same(r, 0), -1);
            due("same(0, " + r + ")", x.same(0, r), -1);
            due("same(" + r + ", " + r + ")", x.same(r, r), -1);
        }
    }

    private static void sameOfOrderAndDepth() {
        promise = 10;
        ProofPacker x = small();
        x.statement(2);
        makeAll(x, 0, 1, 2, 1, 0, 2, 0, 1, 2, 0, 1, 5);
        due("same in another order", x.same(2, 5), 0);
        due("same in the same order", x.same(2, 8), 1);
        due("same by another statement", x.same(2, 11), 0);
        due("count(5)", x.count(5), 5);
        makeAll(x, 3);
        x.again(8);
        makeAll(x, 3);
        x.again(2);
        makeAll(x, 3);
        due("same(12, 13)", x.same(12, 13), 0);
        due("same(13, 14), of rows that are the same", x.same(13, 14), 1);
        due("count(5)", x.count(5), 7);
    }

    private static void pack() {
        promise = 11;
        ProofPacker x = small();
        makeAll(x, 1);
        due("pack()", x.pack(), 1);
        dueText("the steps of a row from none", steps(x), "1");
        x.clear();
        makeAll(x, 0, 0, 2, 0, 0, 2, 2, 0, 0, 2, 3, 2);
        due("pack()", x.pack(), 8);
        dueText("the steps", steps(x), "0 0 2* -2 2 -2 3 2");
        x.clear();
        makeAll(x, 0, 3);
        x.again(0);
        makeAll(x, 2);
        x.again(0);
        makeAll(x, 2);
        due("pack() of rows from none that come again", x.pack(), 6);
        dueText("the steps", steps(x), "0 3 0 2 0 2");
        x.again(1);
        x.again(3);
        makeAll(x, 4);
        due("pack()", x.pack(), 9);
        dueText("the steps", steps(x), "0 3* 0 2 0 2* -2 -3 4");
    }

    private static void packRefused() {
        promise = 11;
        ProofPacker x = small();
        due("pack() of nothing", x.pack(), -1);
        makeAll(x, 0, 1);
        due("pack() of two", x.pack(), -1);
        makeAll(x, 2);
        due("pack()", x.pack(), 3);
        x.again(0);
        due("pack() of two", x.pack(), -1);
        due("packed(0)", x.packed(0), 2);
        dueText("the steps that stay", steps(x), "0 1 2");
        dueText("the letters that stay", letters(x), "ABC");
        due("check()", x.check(), 1);
    }

    private static void packStaysAsItWas() {
        promise = 11;
        ProofPacker x = small();
        makeAll(x, 0, 1, 2);
        x.again(2);
        makeAll(x, 2);
        x.pack();
        x.mandatory(1);
        makeAll(x, 3);
        dueText("the steps as they were packed", steps(x), "0 1 2* -2 2");
        dueText("the letters as they were packed", letters(x), "ABCZDC");
        due("label(0)", x.label(0), 1);
        due("packed(0)", x.packed(0), 2);
        due("check()", x.check(), 1);
        due("pack()", x.pack(), 6);
        dueText("the letters packed anew", letters(x), "ABCZECD");
        due("label(0)", x.label(0), 2);
        due("packed(0)", x.packed(0), 2);
    }

    private static void step() {
        promise = 12;
        ProofPacker x = small();
        makeAll(x, 0, 3, 1, 3);
        x.again(3);
        x.again(1);
        makeAll(x, 2, 4);
        x.pack();
        int[] want = {0, 3, 1, 3, -3, -2, 2, 4, -1};
        for (int k = 0; k < want.length; k++) {
            due("step(" + k + ")", x.step(k), want[k]);
        }
        for (int k : WRONG) {
            due("step(" + k + ")", x.step(k), -1);
        }
    }

    private static void saves() {
        promise = 13;
        ProofPacker x = small();
        makeAll(x, 0, 3, 1, 3);
        x.again(1);
        makeAll(x, 4);
        x.pack();
        int[] want = {0, 1, 0, 0, 0, 0, -1};
        for (int k = 0; k < want.length; k++) {
            due("saves(" + k + ")", x.saves(k), want[k]);
        }
        for (int k : WRONG) {
            due("saves(" + k + ")", x.saves(k), -1);
        }
    }

    private static void savedRowsAreNumberedAsTold() {
        promise = 12;
        ProofPacker x = small();
        // The row inside is told before the row around it, though that one comes again first.
        makeAll(x, 0, 3, 3);
        x.again(2);
        x.again(1);
        makeAll(x, 4);
        due("pack()", x.pack(), 6);
        dueText("the steps", steps(x), "0 3* 3* -3 -2 4");
        due("packed(2)", x.packed(2), 2);
        dueText("the letters", letters(x), "ABZBZEDC");
        due("check()", x.check(), 1);
    }

    private static void label() {
        promise = 14;
        ProofPacker x = small();
        makeAll(x, 1, 0, 2, 3, 1, 0, 4, 3);
        due("pack()", x.pack(), 8);
        int[] want = {1, 2, 3, 4, -1};
        for (int k = 0; k < want.length; k++) {
            due("label(" + k + ")", x.label(k), want[k]);
        }
        for (int k : WRONG) {
            due("label(" + k + ")", x.label(k), -1);
        }
        due("packed(0)", x.packed(0), 4);
        x.clear();
        makeAll(x, 0);
        x.pack();
        due("packed(0) of a mandatory one alone", x.packed(0), 0);
        due("label(0)", x.label(0), -1);
    }

    private static void packed() {
        promise = 15;
        ProofPacker x = small();
        makeAll(x, 0, 1, 2);
        x.again(2);
        makeAll(x, 2);
        x.pack();
        due("packed(0)", x.packed(0), 2);
        due("packed(1)", x.packed(1), 6);
        due("packed(2)", x.packed(2), 1);
        due("packed(3)", x.packed(3), -1);
        for (int what : WRONG) {
            due("packed(" + what + ")", x.packed(what), -1);
        }
    }

    private static void letter() {
        promise = 16;
        ProofPacker x = new ProofPacker();
        x.statement(2);
        x.statement(0);
        x.statement(0);
        x.statement(0);
        x.mandatory(3);
        x.mandatory(1);
        makeAll(x, 1, 3, 0);
        x.again(2);
        makeAll(x, 0, 2, 0);
        x.pack();
        int[] want = {'B', 'A', 'C', 'Z', 'E', 'C', 'D', 'C', -1};
        for (int k = 0; k < want.length; k++) {
            due("letter(" + k + ")", x.letter(k), want[k]);
        }
        for (int k : WRONG) {
            due("letter(" + k + ")", x.letter(k), -1);
        }
    }

    private static String lettersOf(int number) {
        StringBuilder told = new StringBuilder();
        told.append((char) ('A' + (number - 1) % 20));
        for (int left = (number - 1) / 20; left != 0; left = (left - 1) / 5) {
            told.insert(0, (char) ('U' + (left - 1) % 5));
        }
        return told.toString();
    }

    private static void lettersOfGreatNumbers() {
        promise = 16;
        dueText("20", lettersOf(20), "T");
        dueText("21", lettersOf(21), "UA");
        dueText("120", lettersOf(120), "YT");
        dueText("121", lettersOf(121), "UUA");
        dueText("620", lettersOf(620), "YYT");
        dueText("621", lettersOf(621), "UUUA");
        ProofPacker x = new ProofPacker();
        for (int i = 0; i < 150; i++) {
            x.statement(0);
        }
        x.statement(50);
        x.statement(3);
        StringBuilder want = new StringBuilder();
        int number = 0;
        for (int i = 0; i < 150; i++) {
            x.make(i);
            want.append(lettersOf(++number));
            if (i % 50 == 49) {
                x.make(150);
                want.append(lettersOf(51));
                number = i == 49 ? 51 : number;
            }
        }
        x.make(151);
        want.append(lettersOf(++number));
        due("pack()", x.pack(), 154);
        due("packed(0)", x.packed(0), 152);
        dueText("the letters of many labels", letters(x), want.toString());
    }

    private static void size() {
        promise = 17;
        ProofPacker x = small();
        makeAll(x, 0, 0, 2);
        x.again(2);
        x.again(2);
        makeAll(x, 4, 3);
        long[] want = {1, 1, 3, 10, 11, -1};
        for (int r = 0; r < want.length; r++) {
            due("size(" + r + ")", x.size(r), want[r]);
        }
        for (int r : WRONG) {
            due("size(" + r + ")", x.size(r), -1);
        }
    }

    /** A row of n steps to the step: from one of n - 1, or twice from one of (n - 1) / 2. */
    private static int rowOfSteps(ProofPacker x, long n) {
        boolean[] twice = new boolean[200];
        int ways = 0;
        for (long left = n; left > 1; ways++) {
            twice[ways] = left % 2 == 1;
            left = twice[ways] ? (left - 1) / 2 : left - 1;
        }
        int r = x.make(0);
        for (int way = ways - 1; way >= 0; way--) {
            if (twice[way]) {
                x.again(r);
            }
            r = x.make(twice[way] ? 2 : 3);
        }
        return r;
    }

    private static void sizeAtItsLimit() {
        promise = 17;
        long limit = 1000000000000000000L;
        ProofPacker x = small();
        int last = rowOfSteps(x, limit);
        due("size of the one before", x.size(last - 1), limit - 1);
        due("size of 10^18", x.size(last), limit);
        due("size of 10^18 + 1", x.size(x.make(3)), -2);
        int more = x.make(3);
        due("size of more", x.size(more), -2);
        // Ten times more than 10^18 is more than a long holds; sixty times comes round to it again.
        for (int n : new int[] {10, 60, 60}) {
            int all = x.statement(n);
            for (int many = 1; many < n; many++) {
                x.again(more);
            }
            more = x.make(all);
            due("size of " + n + " times more", x.size(more), -2);
            due("full of it", x.full(more, 0), -1);
        }
    }

    private static void full() {
        promise = 18;
        ProofPacker x = small();
        makeAll(x, 0, 1, 2, 3);
        x.again(2);
        x.again(0);
        makeAll(x, 4);
        int[] want = {0, 1, 2, 3, 0, 1, 2, 0, 4, -1};
        for (int k = 0; k < want.length; k++) {
            due("full(4, " + k + ")", x.full(4, k), want[k]);
        }
        due("full(3, 0)", x.full(3, 0), 0);
        due("full(3, 3)", x.full(3, 3), 3);
        due("full(3, 4)", x.full(3, 4), -1);
        due("full(1, 0)", x.full(1, 0), 1);
        due("full(1, 1)", x.full(1, 1), -1);
        due("full(5, 0)", x.full(5, 0), -1);
        for (int k : WRONG) {
            due("full(4, " + k + ")", x.full(4, k), -1);
            due("full(" + k + ", 0)", x.full(k, 0), -1);
        }
    }

    private static void fullAtItsLimit() {
        promise = 18;
        ProofPacker x = small();
        makeAll(x, 0);
        int inside = rowOfSteps(x, 3998);
        makeAll(x, 2);
        int last = inside + 1;
        due("size of 4000", x.size(last), 4000);
        due("full(.., 0) of 4000", x.full(last, 0), 0);
        due("full(.., 1) of 4000", x.full(last, 1), 0);
        due("full(.., 3998) of 4000", x.full(last, 3998), x.row(inside));
        due("full(.., 3999) of 4000", x.full(last, 3999), 2);
        due("full(.., 4000) of 4000", x.full(last, 4000), -1);
        makeAll(x, 3);
        due("size of 4001", x.size(last + 1), 4001);
        due("full(.., 0) of 4001", x.full(last + 1, 0), -1);
        due("full(.., 4000) of 4001", x.full(last + 1, 4000), -1);
        due("full(.., 3999) of the row inside it", x.full(last, 3999), 2);
    }

    private static void check() {
        promise = 19;
        ProofPacker x = small();
        due("check() of nothing", x.check(), 1);
        makeAll(x, 0, 3, 1, 3);
        x.again(1);
        makeAll(x, 4);
        x.again(4);
        makeAll(x, 2);
        due("pack()", x.pack(), 8);
        due("check()", x.check(), 1);
        due("check() twice", x.check(), 1);
        makeAll(x, 0);
        due("check() with more rows", x.check(), 1);
        due("pack()", x.pack(), -1);
        due("check() when nothing was packed anew", x.check(), 1);
        x.clear();
        due("check() when all is cleared", x.check(), 1);
    }

    /** As deep as 512 calls go: no way of going down the rows may run out of levels. */
    private static void deepRows() {
        promise = 11;
        ProofPacker x = small();
        makeAll(x, 1);
        for (int r = 1; r <= 490; r++) {
            makeAll(x, 3);
        }
        due("pack()", x.pack(), 491);
        due("step(490)", x.step(490), 3);
        due("size(490)", x.size(490), 491);
        due("full(490, 0)", x.full(490, 0), 1);
        due("full(490, 490)", x.full(490, 490), 3);
        due("check()", x.check(), 1);
    }
}
