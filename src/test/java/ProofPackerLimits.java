// What the document names but 512 calls of one object can't reach. What later calls answer is free;
// LANGUAGE.md still wants every call to end and none to throw, and here the limits hold all the same.
public final class ProofPackerLimits {
    private static int wrong = 0;

    private static void due(String call, long got, long want) {
        if (got != want) {
            wrong++;
            System.out.println(call + " answered " + got + ", due is " + want);
        }
    }

    public static void main(String[] args) {
        mostStatements();
        mostRows();
        mostPuts();
        deepestRow();
        manyLettersOfANumber();
        anyCalls();
        System.out.println(wrong == 0 ? "the limits hold" : wrong + " answers are not as due");
        if (wrong != 0) {
            System.exit(1);
        }
    }

    private static void mostStatements() {
        ProofPacker x = new ProofPacker();
        for (int i = 0; i < 1500; i++) {
            due("statement(0)", x.statement(0), i);
        }
        due("statement(0) as the 1501st", x.statement(0), -1);
        due("statement(60) as the 1501st", x.statement(60), -1);
        due("statement(61) as the 1501st", x.statement(61), -1);
        due("count(0)", x.count(0), 1500);
        due("clear()", x.clear(), 0);
        due("statement(0) behind clear()", x.statement(0), -1);
        due("mandatory(1500)", x.mandatory(1500), -1);
        due("mandatory(1499)", x.mandatory(1499), 1);
        due("make(1499)", x.make(1499), 0);
        due("make(1500)", x.make(1500), -1);
    }

    private static void mostRows() {
        ProofPacker x = new ProofPacker();
        x.statement(0);
        x.statement(1);
        x.make(0);
        for (int r = 1; r < 4000; r++) {
            due("make(1)", x.make(1), r);
        }
        due("make(1) as the 4001st", x.make(1), -1);
        due("make(0) as the 4001st", x.make(0), -1);
        due("row(3999)", x.row(3999), 1);
        due("row(4000)", x.row(4000), -1);
        due("from(3999, 0)", x.from(3999, 0), 3998);
        due("count(5)", x.count(5), 4000);
        due("count(2)", x.count(2), 4000);
        due("count(3)", x.count(3), 1);
        due("count(4)", x.count(4), 4000);
        due("again(3999), which makes no row", x.again(3999), 2);
        due("make(1) as the 4001st", x.make(1), -1);
        due("count(3)", x.count(3), 2);
        due("count(4)", x.count(4), 4001);
        due("again(4000)", x.again(4000), -1);
        due("clear()", x.clear(), 4000);
        due("make(0)", x.make(0), 0);
    }

    private static void mostPuts() {
        ProofPacker x = new ProofPacker();
        x.statement(0);
        x.statement(60);
        x.statement(1);
        int r = x.make(0);
        int puts = 1;
        while (puts < 20000 - 61) {
            for (int k = 1; k < 60; k++) {
                x.again(r);
            }
            r = x.make(1);
            puts += 60;
        }
        while (puts < 19999) {
            x.again(r);
            puts++;
        }
        due("count(4)", x.count(4), 19999);
        int onPile = x.count(3);
        due("make(2) as the 20000th", x.make(2), r + 1);
        due("again(0) as the 20001st", x.again(0), -1);
        due("make(0) as the 20001st", x.make(0), -1);
        due("make(2) as the 20001st", x.make(2), -1);
        due("count(2)", x.count(2), r + 2);
        due("count(3)", x.count(3), onPile);
        due("count(4)", x.count(4), 20000);
        due("clear()", x.clear(), r + 2);
        due("make(0)", x.make(0), 0);
        due("count(4)", x.count(4), 1);
    }

    private static void deepestRow() {
        ProofPacker x = new ProofPacker();
        x.statement(0);
        x.statement(2);
        x.statement(1);
        x.make(0);
        for (int r = 1; r < 4000; r++) {
            x.again(r - 1);
            x.make(1);
        }
        due("pack()", x.pack(), 2 * 3999 + 1);
        due("packed(2)", x.packed(2), 3998);
        due("check()", x.check(), 1);
        due("size(3999)", x.size(3999), -2);
        x.clear();
        x.make(0);
        for (int r = 1; r < 4000; r++) {
            x.make(2);
        }
        due("size(3999)", x.size(3999), 4000);
        due("full(3999, 0)", x.full(3999, 0), 0);
        due("full(3999, 3999)", x.full(3999, 3999), 2);
        due("pack()", x.pack(), 4000);
        due("check()", x.check(), 1);
    }

    /** 1500 labels, and saved rows behind them: numbers of four letters. */
    private static void manyLettersOfANumber() {
        ProofPacker x = new ProofPacker();
        for (int i = 0; i < 1499; i++) {
            x.statement(0);
        }
        int both = x.statement(2);
        int r = x.make(0);
        for (int i = 1; i < 1499; i++) {
            x.make(i);
            r = x.make(both);
        }
        x.again(r);
        x.make(both);
        due("pack()", x.pack(), 2 * 1498 + 1 + 2);
        due("packed(0)", x.packed(0), 1500);
        int last = x.packed(1) - 1;
        // 1501: A, left 75: 74 % 5 is Y, 14: 13 % 5 is X, 2: V.
        int[] want = {'V', 'X', 'Y', 'A', 'C'};
        for (int k = 0; k < want.length; k++) {
            due("letter " + k + " of the last five", x.letter(last - 4 + k), want[k]);
        }
        due("check()", x.check(), 1);
    }

    private static void anyCalls() {
        ProofPacker x = new ProofPacker();
        long seed = 1;
        int[] far = {Integer.MIN_VALUE, Integer.MAX_VALUE, Integer.MAX_VALUE - 1, -1, -2};
        for (int call = 0; call < 300000; call++) {
            seed = seed * 6364136223846793005L + 1442695040888963407L;
            int what = (int) (seed >>> 33) % 1000;
            int a = (int) (seed >>> 40) % 70;
            int b = (int) (seed >>> 50) % 70;
            anyCall(x, what, what % 50 == 0 ? far[b % 5] : a, what % 70 == 0 ? far[a % 5] : b);
        }
    }

    private static void anyCall(ProofPacker x, int what, int a, int b) {
        if (what == 0) {
            x.clear();
            return;
        }
        switch (what % 18) {
            case 0: x.statement(a); break;
            case 1: x.mandatory(a); break;
            case 2: case 3: case 4: x.make(a); break;
            case 5: x.again(a); break;
            case 6: x.count(a); break;
            case 7: x.row(a); break;
            case 8: x.from(a, b); break;
            case 9: x.same(a, b); break;
            case 10: x.pack(); break;
            case 11: x.step(a); x.saves(b); break;
            case 12: x.label(a); break;
            case 13: x.packed(a); break;
            case 14: x.letter(a); break;
            case 15: x.size(a); break;
            case 16: x.full(a, b); break;
            default: due("check()", x.check(), 1); break;
        }
    }
}
