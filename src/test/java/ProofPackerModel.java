import java.util.ArrayList;
import java.util.List;

// Made-up runs of calls, each answered by the class and by a slow model that goes by the words of
// the document alone: rows as trees, sameness looked up down the trees, everything told by recursion.
public final class ProofPackerModel {
    private static final int RUNS = 1500;
    private static final int CALLS = 511;

    private static int wrong = 0;

    public static void main(String[] args) {
        for (int run = 1; run <= RUNS && wrong < 20; run++) {
            new Run(run).go();
        }
        System.out.println(wrong == 0 ? RUNS + " runs answered as the model does" : wrong + " runs did not");
        if (wrong != 0) {
            System.exit(1);
        }
    }

    private static final class Row {
        final int number;
        final int statement;
        final List<Row> from;

        Row(int number, int statement, List<Row> from) {
            this.number = number;
            this.statement = statement;
            this.from = from;
        }
    }

    private static final class Step {
        final Row row;
        final Row savedRow;

        Step(Row row, Row savedRow) {
            this.row = row;
            this.savedRow = savedRow;
        }
    }

    private static final class Model {
        final List<Integer> takes = new ArrayList<>();
        final List<Integer> mandatory = new ArrayList<>();
        List<Row> rows = new ArrayList<>();
        List<Row> pile = new ArrayList<>();
        int puts = 0;
        int[][] known = new int[600][600];
        List<Integer> steps = new ArrayList<>();
        List<Integer> saves = new ArrayList<>();
        List<Integer> labels = new ArrayList<>();
        String letters = "";
        int saved = 0;

        int statement(int n) {
            if (n < 0 || n > 60) {
                return -1;
            }
            takes.add(n);
            return takes.size() - 1;
        }

        int mandatory(int i) {
            if (i < 0 || i >= takes.size() || takes.get(i) != 0 || mandatory.contains(i) || mandatory.size() == 60) {
                return -1;
            }
            mandatory.add(i);
            return mandatory.size();
        }

        int make(int i) {
            if (i < 0 || i >= takes.size() || takes.get(i) > pile.size() || pile.size() - takes.get(i) + 1 > 200) {
                return -1;
            }
            List<Row> top = pile.subList(pile.size() - takes.get(i), pile.size());
            Row made = new Row(rows.size(), i, new ArrayList<>(top));
            top.clear();
            rows.add(made);
            pile.add(made);
            puts++;
            return made.number;
        }

        int again(int r) {
            if (r < 0 || r >= rows.size() || pile.size() == 200) {
                return -1;
            }
            pile.add(rows.get(r));
            puts++;
            return pile.size();
        }

        int clear() {
            int before = rows.size();
            rows = new ArrayList<>();
            pile = new ArrayList<>();
            puts = 0;
            known = new int[600][600];
            steps = new ArrayList<>();
            saves = new ArrayList<>();
            labels = new ArrayList<>();
            letters = "";
            saved = 0;
            return before;
        }

        int count(int what) {
            switch (what) {
                case 0: return takes.size();
                case 1: return mandatory.size();
                case 2: return rows.size();
                case 3: return pile.size();
                case 4: return puts;
                case 5: return different();
                default: return -1;
            }
        }

        int different() {
            int different = 0;
            for (Row r : rows) {
                boolean first = true;
                for (int s = 0; s < r.number && first; s++) {
                    first = !alike(r, rows.get(s));
                }
                different += first ? 1 : 0;
            }
            return different;
        }

        // What was found once is kept, or rows made from one row twice would be looked up without end.
        boolean alike(Row r, Row s) {
            if (r == s) {
                return true;
            }
            if (known[r.number][s.number] == 0) {
                boolean alike = r.statement == s.statement;
                for (int k = 0; alike && k < r.from.size(); k++) {
                    alike = alike(r.from.get(k), s.from.get(k));
                }
                known[r.number][s.number] = alike ? 1 : 2;
            }
            return known[r.number][s.number] == 1;
        }

        int same(int r, int s) {
            if (row(r) < 0 || row(s) < 0) {
                return -1;
            }
            return alike(rows.get(r), rows.get(s)) ? 1 : 0;
        }

        int row(int r) {
            return r < 0 || r >= rows.size() ? -1 : rows.get(r).statement;
        }

        int from(int r, int k) {
            return row(r) < 0 || k < 0 || k >= rows.get(r).from.size() ? -1 : rows.get(r).from.get(k).number;
        }

        int pack() {
            if (pile.size() != 1) {
                return -1;
            }
            List<Step> told = new ArrayList<>();
            tell(pile.get(0), told);
            List<Row> savedRows = new ArrayList<>();
            for (Step one : told) {
                boolean comesAgain = false;
                for (Step other : told) {
                    comesAgain |= one.savedRow == null && other.savedRow == one.row;
                }
                if (comesAgain) {
                    savedRows.add(one.row);
                }
            }
            saved = savedRows.size();
            steps = new ArrayList<>();
            saves = new ArrayList<>();
            labels = new ArrayList<>();
            for (Step one : told) {
                boolean own = one.savedRow == null;
                steps.add(own ? one.row.statement : -2 - savedRows.indexOf(one.savedRow));
                saves.add(own && savedRows.contains(one.row) && one.row.from.size() > 0 ? 1 : 0);
                if (own && !mandatory.contains(one.row.statement) && !labels.contains(one.row.statement)) {
                    labels.add(one.row.statement);
                }
            }
            tellLetters();
            return steps.size();
        }

        void tell(Row r, List<Step> told) {
            if (r.from.size() > 0) {
                for (Step before : told) {
                    if (before.savedRow == null && alike(before.row, r)) {
                        told.add(new Step(r, before.row));
                        return;
                    }
                }
            }
            for (Row part : r.from) {
                tell(part, told);
            }
            told.add(new Step(r, null));
        }

        void tellLetters() {
            StringBuilder all = new StringBuilder();
            for (int k = 0; k < steps.size(); k++) {
                int i = steps.get(k);
                int number = i <= -2 ? mandatory.size() + labels.size() - 1 - i
                        : mandatory.contains(i) ? mandatory.indexOf(i) + 1
                        : mandatory.size() + labels.indexOf(i) + 1;
                all.append(high((number - 1) / 20)).append("ABCDEFGHIJKLMNOPQRST".charAt((number - 1) % 20));
                all.append(saves.get(k) == 1 ? "Z" : "");
            }
            letters = all.toString();
        }

        static String high(int left) {
            return left == 0 ? "" : high((left - 1) / 5) + "UVWXY".charAt((left - 1) % 5);
        }

        int packed(int what) {
            return what == 0 ? labels.size() : what == 1 ? letters.length() : what == 2 ? saved : -1;
        }

        static int in(List<Integer> list, int k) {
            return k < 0 || k >= list.size() ? -1 : list.get(k);
        }

        long size(int r) {
            if (row(r) < 0) {
                return -1;
            }
            java.math.BigInteger[] sizes = new java.math.BigInteger[rows.size()];
            for (Row one : rows) {
                sizes[one.number] = java.math.BigInteger.ONE;
                for (Row part : one.from) {
                    sizes[one.number] = sizes[one.number].add(sizes[part.number]);
                }
            }
            boolean more = sizes[r].compareTo(java.math.BigInteger.TEN.pow(18)) > 0;
            return more ? -2 : sizes[r].longValue();
        }

        int full(int r, int k) {
            if (size(r) < 0 || size(r) > 4000) {
                return -1;
            }
            List<Integer> all = new ArrayList<>();
            tellInFull(rows.get(r), all);
            return in(all, k);
        }

        static void tellInFull(Row r, List<Integer> all) {
            for (Row part : r.from) {
                tellInFull(part, all);
            }
            all.add(r.statement);
        }
    }

    private static final class Run {
        final int number;
        final ProofPacker x = new ProofPacker();
        final Model model = new Model();
        final StringBuilder calls = new StringBuilder();
        long seed;
        int done = 0;
        boolean good = true;

        Run(int number) {
            this.number = number;
            seed = 7919L * number + 1;
        }

        int upTo(int bound) {
            seed = seed * 6364136223846793005L + 1442695040888963407L;
            return (int) Long.remainderUnsigned(seed >>> 20, bound);
        }

        // Now and then just outside of what there is, or far outside.
        int place(int length) {
            int way = upTo(24);
            if (way == 0) {
                return length;
            }
            if (way == 1) {
                return new int[] {-1, -2, Integer.MIN_VALUE, Integer.MAX_VALUE, length + 1}[upTo(5)];
            }
            return length == 0 ? 0 : upTo(length);
        }

        void due(String call, long got, long want) {
            done++;
            calls.append(call).append(" = ").append(want).append('\n');
            if (got != want && good) {
                good = false;
                wrong++;
                System.out.println("run " + number + ", call " + done + ": " + call + " answered " + got + ", due is " + want);
                if (wrong == 1) {
                    System.out.print(calls);
                }
            }
        }

        void go() {
            int kinds = 1 + upTo(number % 5 == 0 ? 150 : 6);
            for (int k = 0; k < kinds; k++) {
                int n = upTo(3) > 0 ? 0 : upTo(2) > 0 ? 2 : upTo(number % 7 == 0 ? 61 : 4);
                due("statement(" + n + ")", x.statement(n), model.statement(n));
            }
            int mandatories = upTo(kinds + 1);
            for (int k = 0; k < mandatories; k++) {
                int i = upTo(kinds);
                due("mandatory(" + i + ")", x.mandatory(i), model.mandatory(i));
            }
            int asks = number % 3;
            while (good && done < CALLS) {
                int way = upTo(asks == 0 ? 100 : asks == 1 ? 40 : 30);
                if (way < 28) {
                    build(way);
                } else {
                    ask();
                }
            }
        }

        void build(int way) {
            if (way < 15) {
                int i = bestToMake();
                due("make(" + i + ")", x.make(i), model.make(i));
            } else if (way < 24) {
                int r = upTo(3) > 0 && !model.rows.isEmpty()
                        ? model.rows.size() - 1 - upTo(Math.min(5, model.rows.size())) : place(model.rows.size());
                due("again(" + r + ")", x.again(r), model.again(r));
            } else if (way < 27) {
                if (number % 2 == 0 || upTo(12) == 0) {
                    makeOneOfAll();
                    tellAll();
                }
            } else {
                rarely();
            }
        }

        // Often the statement that takes most of the pile, so that one row alone is left.
        int bestToMake() {
            if (upTo(3) == 0) {
                return place(model.takes.size());
            }
            int best = upTo(model.takes.size());
            for (int tries = 0; tries < 4; tries++) {
                int i = upTo(model.takes.size());
                if (model.takes.get(i) <= model.pile.size() && model.takes.get(i) > model.takes.get(best)) {
                    best = i;
                }
            }
            return best;
        }

        // By a statement that takes two: with more on the pile there is nothing to pack.
        void makeOneOfAll() {
            int two = model.takes.indexOf(2);
            while (two >= 0 && model.pile.size() > 1 && done < CALLS - 5) {
                due("make(" + two + ")", x.make(two), model.make(two));
            }
        }

        void tellAll() {
            due("pack()", x.pack(), model.pack());
            due("check()", x.check(), 1);
            for (int what = 0; what < 3 && done < CALLS; what++) {
                due("packed(" + what + ")", x.packed(what), model.packed(what));
            }
            int first = upTo(Math.max(1, model.letters.length()));
            for (int k = first; k < first + 8 && done < CALLS - 3; k++) {
                due("letter(" + k + ")", x.letter(k), k < model.letters.length() ? model.letters.charAt(k) : -1);
                due("step(" + k + ")", x.step(k), Model.in(model.steps, k));
                due("saves(" + k + ")", x.saves(k), Model.in(model.saves, k));
            }
        }

        void rarely() {
            int way = upTo(12);
            if (way == 0) {
                due("clear()", x.clear(), model.clear());
            } else if (way < 6) {
                int n = upTo(5) == 0 ? place(61) : upTo(3);
                due("statement(" + n + ")", x.statement(n), model.statement(n));
            } else {
                int i = place(model.takes.size());
                due("mandatory(" + i + ")", x.mandatory(i), model.mandatory(i));
            }
        }

        void ask() {
            int rows = model.rows.size();
            int r = place(rows);
            int s = place(rows);
            switch (upTo(12)) {
                case 0: due("count(" + (s % 8) + ")", x.count(s % 8), model.count(s % 8)); break;
                case 1: due("row(" + r + ")", x.row(r), model.row(r)); break;
                case 2: {
                    int k = place(3);
                    due("from(" + r + ", " + k + ")", x.from(r, k), model.from(r, k));
                    break;
                }
                case 3: due("same(" + r + ", " + s + ")", x.same(r, s), model.same(r, s)); break;
                case 4: due("size(" + r + ")", x.size(r), model.size(r)); break;
                case 5: case 6: {
                    int k = place((int) Math.max(1, Math.min(4000, model.size(r))));
                    due("full(" + r + ", " + k + ")", x.full(r, k), model.full(r, k));
                    break;
                }
                case 7: {
                    int k = place(model.labels.size());
                    due("label(" + k + ")", x.label(k), Model.in(model.labels, k));
                    break;
                }
                case 8: {
                    int k = place(model.letters.length());
                    boolean there = k >= 0 && k < model.letters.length();
                    due("letter(" + k + ")", x.letter(k), there ? model.letters.charAt(k) : -1);
                    break;
                }
                case 9: {
                    int k = place(model.steps.size());
                    due("step(" + k + ")", x.step(k), Model.in(model.steps, k));
                    due("saves(" + k + ")", x.saves(k), Model.in(model.saves, k));
                    break;
                }
                case 10: {
                    int what = place(3);
                    due("packed(" + what + ")", x.packed(what), model.packed(what));
                    break;
                }
                default: due("check()", x.check(), 1); break;
            }
        }
    }
}
