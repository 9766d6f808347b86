/** Promises 10 to 22: matrices and vectors. */
public final class MatrixTest {
    private static final int INF = Amoebary.INFINITE;

    public static void main(String[] args) {
        matrix();
        entry();
        part();
        multiply();
        star();
        mean();
        determinantAndWays();
        solve();
        project();
        tree();
        Check.end("MatrixTest");
    }

    static void put(Amoebary x, int matrix, int rows, int... entries) {
        x.matrix(matrix, rows);
        for (int i = 0; i < rows * rows; i++) {
            x.entry(matrix, i / rows, i % rows, entries[i]);
        }
    }

    static void putVector(Amoebary x, int vector, int... parts) {
        for (int i = 0; i < parts.length; i++) {
            x.part(vector, i, parts[i]);
        }
    }

    static void dueMatrix(String call, Amoebary x, int matrix, int rows, int... entries) {
        for (int i = 0; i < rows * rows; i++) {
            Check.due(call + " at " + i / rows + ", " + i % rows,
                    x.at(matrix, i / rows, i % rows), entries[i]);
        }
        Check.noSuch(call + " beyond", () -> x.at(matrix, rows, 0));
    }

    static void dueVector(String call, Amoebary x, int vector, int... parts) {
        for (int i = 0; i < parts.length; i++) {
            Check.due(call + " part " + i, x.partAt(vector, i), parts[i]);
        }
    }

    /** A 1 by 1 matrix 1 and a vector's part 0 at the limit of 99999, by multiplying by itself. */
    private static Amoebary atLimit(int sign) {
        Amoebary x = new Amoebary();
        put(x, 1, 1, 999 * sign);
        put(x, 0, 1, 999 * sign);
        for (int k = 2; k <= 100; k++) {
            x.multiply(0, 1, 1);
        }
        put(x, 0, 1, 99 * sign);
        Check.due("multiply to the limit", x.multiply(0, 1, 1), 1);
        Check.due("at the limit", x.at(1, 0, 0), 99999 * sign);
        return x;
    }

    private static void matrix() {
        Amoebary x = new Amoebary();
        Check.due("matrix(0, 5)", x.matrix(0, 5), 1);
        x.entry(0, 4, 4, 7);
        x.entry(0, 0, 0, 8);
        Check.due("matrix(0, 2)", x.matrix(0, 2), 5);
        dueMatrix("matrix(0, 2)", x, 0, 2, INF, INF, INF, INF);
        x.entry(0, 1, 1, 3);
        Check.due("matrix(0, 5) again", x.matrix(0, 5), 2);
        Check.due("of new", x.at(0, 4, 4), INF);
        Check.due("of new", x.at(0, 1, 1), INF);
        Check.noSuch("matrix(4, 1)", () -> x.matrix(4, 1));
        Check.noSuch("matrix(-1, 0)", () -> x.matrix(-1, 0));
        Check.badArgument("matrix(0, 0)", () -> x.matrix(0, 0));
        Check.badArgument("matrix(0, 6)", () -> x.matrix(0, 6));
        Check.badArgument("matrix(0, min)", () -> x.matrix(0, Integer.MIN_VALUE));
        Check.due("what stays", x.matrix(0, 5), 5);
    }

    private static void entry() {
        Amoebary x = new Amoebary();
        x.matrix(3, 2);
        Check.due("entry(3, 1, 0, 999)", x.entry(3, 1, 0, 999), INF);
        Check.due("entry(3, 1, 0, -999)", x.entry(3, 1, 0, -999), 999);
        Check.due("entry(3, 1, 0, INFINITE)", x.entry(3, 1, 0, INF), -999);
        Check.due("entry(3, 1, 0, 5)", x.entry(3, 1, 0, 5), INF);
        Check.due("at(3, 1, 0)", x.at(3, 1, 0), 5);
        Check.due("at(3, 0, 1)", x.at(3, 0, 1), INF);
        for (int wrong : new int[] {-1, 2, 4, 5, Integer.MAX_VALUE}) {
            Check.noSuch("entry row " + wrong, () -> x.entry(3, wrong, 0, 0));
            Check.noSuch("entry column " + wrong, () -> x.entry(3, 0, wrong, 1000));
            Check.noSuch("at row " + wrong, () -> x.at(3, wrong, 0));
            Check.noSuch("at column " + wrong, () -> x.at(3, 0, wrong));
        }
        for (int wrong : new int[] {-1, 4, Integer.MIN_VALUE}) {
            Check.noSuch("entry of " + wrong, () -> x.entry(wrong, 0, 0, 0));
            Check.noSuch("at of " + wrong, () -> x.at(wrong, 0, 0));
        }
        for (int wrong : new int[] {-1000, 1000, INF + 1, INF - 1}) {
            Check.badArgument("entry " + wrong, () -> x.entry(3, 1, 0, wrong));
        }
        Check.due("what stays", x.at(3, 1, 0), 5);
    }

    private static void part() {
        Amoebary x = new Amoebary();
        Check.due("part(3, 4, 999)", x.part(3, 4, 999), 0);
        Check.due("part(3, 4, -999)", x.part(3, 4, -999), 999);
        Check.due("part(3, 4, INFINITE)", x.part(3, 4, INF), -999);
        Check.due("part(3, 4, 6)", x.part(3, 4, 6), INF);
        Check.due("partAt(3, 4)", x.partAt(3, 4), 6);
        for (int wrong : new int[] {-1, 4, Integer.MAX_VALUE}) {
            Check.noSuch("part of " + wrong, () -> x.part(wrong, 0, 1000));
            Check.noSuch("partAt of " + wrong, () -> x.partAt(wrong, 0));
        }
        for (int wrong : new int[] {-1, 5, Integer.MIN_VALUE}) {
            Check.noSuch("part at " + wrong, () -> x.part(0, wrong, 1000));
            Check.noSuch("partAt at " + wrong, () -> x.partAt(0, wrong));
        }
        for (int wrong : new int[] {-1000, 1000, INF + 1}) {
            Check.badArgument("part " + wrong, () -> x.part(3, 4, wrong));
        }
        Check.due("what stays", x.partAt(3, 4), 6);
    }

    private static void multiply() {
        Amoebary x = new Amoebary();
        put(x, 0, 2, 1, INF, 4, 0);
        put(x, 1, 2, 3, 5, INF, -2);
        Check.due("multiply(0, 1, 2)", x.multiply(0, 1, 2), 4);
        dueMatrix("multiply(0, 1, 2)", x, 2, 2, 4, 6, 7, -2);
        Check.due("multiply(1, 0, 1)", x.multiply(1, 0, 1), 4);
        dueMatrix("multiply(1, 0, 1)", x, 1, 2, 4, 5, 2, -2);
        Check.due("multiply(0, 0, 0)", x.multiply(0, 0, 0), 3);
        dueMatrix("multiply(0, 0, 0)", x, 0, 2, 2, INF, 4, 0);
        Check.due("into one of other rows", x.multiply(0, 0, 3), 3);
        dueMatrix("into one of other rows", x, 3, 2, 4, INF, 4, 0);
        x.matrix(3, 3);
        Check.badState("of other rows", () -> x.multiply(0, 3, 3));
        Check.badState("of other rows, the other way", () -> x.multiply(3, 0, 0));
        Check.noSuch("multiply(0, 3, 4)", () -> x.multiply(0, 3, 4));
        Check.noSuch("multiply(4, 3, 0)", () -> x.multiply(4, 3, 0));
        Check.noSuch("multiply(0, -1, 0)", () -> x.multiply(0, -1, 0));
        Check.due("of INFINITE alone", x.multiply(3, 3, 3), 0);
        for (int sign = -1; sign <= 1; sign += 2) {
            Amoebary y = atLimit(sign);
            put(y, 0, 1, sign);
            Check.badState("beyond the limit", () -> y.multiply(0, 1, 1));
            Check.badState("beyond the limit, elsewhere", () -> y.multiply(1, 0, 2));
            Check.due("what stays", y.at(1, 0, 0), 99999 * sign);
            Check.due("what stays", y.at(2, 0, 0), INF);
        }
    }

    private static void star() {
        Amoebary x = new Amoebary();
        put(x, 0, 3, INF, 2, INF, INF, INF, -1, 1, INF, INF);
        Check.due("star(0, 1)", x.star(0, 1), 9);
        dueMatrix("star(0, 1)", x, 1, 3, 0, 2, 1, 0, 0, -1, 1, 3, 0);
        x.entry(0, 2, 0, INF);
        Check.due("star(0, 0)", x.star(0, 0), 6);
        dueMatrix("star(0, 0)", x, 0, 3, 0, 2, 1, INF, 0, -1, INF, INF, 0);
        put(x, 2, 3, 5, INF, INF, INF, 0, INF, INF, INF, INF);
        Check.due("no step is needed", x.star(2, 2), 3);
        dueMatrix("no step is needed", x, 2, 3, 0, INF, INF, INF, 0, INF, INF, INF, 0);
        put(x, 2, 2, INF, 1, -1, INF);
        Check.due("back at 0", x.star(2, 3), 4);
        x.entry(2, 1, 0, -2);
        Check.badState("back below 0", () -> x.star(2, 2));
        dueMatrix("what stays", x, 2, 2, INF, 1, -2, INF);
        put(x, 2, 2, INF, INF, INF, -1);
        Check.badState("a step below 0", () -> x.star(2, 3));
        dueMatrix("what stays", x, 3, 2, 0, 1, -1, 0);
        Check.noSuch("star(4, 0)", () -> x.star(4, 0));
        Check.noSuch("star(2, 4)", () -> x.star(2, 4));
        Check.noSuch("star(2, -1)", () -> x.star(2, -1));
        starLimits();
    }

    /** Steps of 50000 and 49999 stay within the limit, twice 50000 does not. */
    private static void starLimits() {
        for (int sign = -1; sign <= 1; sign += 2) {
            Amoebary x = new Amoebary();
            put(x, 0, 3, INF, 500 * sign, INF, INF, INF, 500 * sign, INF, INF, INF);
            put(x, 1, 3, 500 * sign, INF, INF, INF, 500 * sign, INF, INF, INF, 500 * sign);
            for (int k = 1; k < 100; k++) {
                x.multiply(0, 1, 0);
            }
            Amoebary y = x;
            Check.badState("star to 100000", () -> y.star(0, 0));
            Check.due("what stays", y.at(0, 0, 1), 50000 * sign);
            Check.due("what stays", y.at(0, 0, 2), INF);
            put(x, 1, 3, 0, INF, INF, INF, -sign, INF, INF, INF, 0);
            x.multiply(1, 0, 0);
            Check.due("star to 99999", x.star(0, 0), 6);
            Check.due("star to 99999", x.at(0, 0, 2), 99999 * sign);
        }
    }

    static void dueMean(String call, Amoebary x, int above, int below) {
        Check.due(call + " above", x.mean(0, 0), above);
        Check.due(call + " below", x.mean(0, 1), below);
    }

    private static void mean() {
        Amoebary x = new Amoebary();
        dueMean("none", x, 0, Amoebary.NONE);
        put(x, 0, 3, INF, 2, INF, INF, INF, -1, 1, INF, INF);
        dueMean("of three", x, 2, 3);
        x.entry(0, 2, 0, -2);
        dueMean("below 0", x, -1, 3);
        x.entry(0, 2, 0, -1);
        dueMean("0", x, 0, 1);
        x.entry(0, 1, 1, -1);
        dueMean("of one step", x, -1, 1);
        put(x, 0, 2, INF, 3, 1, 5);
        dueMean("made shorter", x, 2, 1);
        put(x, 0, 2, INF, 3, INF, INF);
        dueMean("without a cycle", x, 0, Amoebary.NONE);
        put(x, 0, 5, INF, 1, INF, INF, INF, INF, INF, 1, INF, INF, INF, INF, INF, 1, INF,
                INF, INF, INF, INF, 1, 3, INF, INF, INF, INF);
        dueMean("of five", x, 7, 5);
        x.entry(0, 3, 0, 1);
        dueMean("of four", x, 1, 1);
        Check.noSuch("mean(4, 2)", () -> x.mean(4, 2));
        Check.noSuch("mean(-1, 0)", () -> x.mean(-1, 0));
        Check.badArgument("mean(0, 2)", () -> x.mean(0, 2));
        Check.badArgument("mean(0, -1)", () -> x.mean(0, -1));
    }

    static void dueChoices(String call, Amoebary x, int determinant, int ways) {
        Check.due(call + " determinant", x.determinant(0), determinant);
        Check.due(call + " ways", x.ways(0), ways);
    }

    private static void determinantAndWays() {
        Amoebary x = new Amoebary();
        dueChoices("none", x, INF, 0);
        put(x, 0, 1, -5);
        dueChoices("of one", x, -5, 1);
        put(x, 0, 2, 1, 2, 3, 4);
        dueChoices("tied", x, 5, 2);
        put(x, 0, 2, 1, 2, 3, 3);
        dueChoices("the one", x, 4, 1);
        put(x, 0, 2, INF, 2, 3, 3);
        dueChoices("the other", x, 5, 1);
        put(x, 0, 2, INF, INF, 3, 3);
        dueChoices("no choice", x, INF, 0);
        put(x, 0, 5, 0, 0, 0, 0, 0, 0, 0, 0, 0, 0, 0, 0, 0, 0, 0, 0, 0, 0, 0, 0, 0, 0, 0, 0, 0);
        dueChoices("all alike", x, 0, 120);
        x.entry(0, 4, 4, -1);
        dueChoices("one below", x, -1, 24);
        x.matrix(0, 5);
        for (int i = 0; i < 5; i++) {
            x.entry(0, i, (i + 2) % 5, 999);
        }
        dueChoices("just one", x, 4995, 1);
        Check.noSuch("determinant(4)", () -> x.determinant(4));
        Check.noSuch("determinant(-1)", () -> x.determinant(-1));
        Check.noSuch("ways(4)", () -> x.ways(4));
        Check.noSuch("ways(-1)", () -> x.ways(-1));
    }

    private static void solve() {
        Amoebary x = new Amoebary();
        put(x, 0, 3, INF, 2, INF, INF, INF, -1, -2, INF, INF);
        putVector(x, 0, 4, 0, 7, 33, 44);
        putVector(x, 1, 11, 12, 13, 14, INF);
        Check.due("solve(0, 0, 1)", x.solve(0, 0, 1), true);
        dueVector("solve(0, 0, 1)", x, 1, 9, 2, 1, 14, INF);
        dueVector("what stays", x, 0, 4, 0, 7, 33, 44);
        put(x, 1, 2, 0, 5, 1, 2);
        putVector(x, 0, 10, 3);
        Check.due("does not solve", x.solve(1, 0, 0), false);
        dueVector("does not solve", x, 0, 10, 5, 7, 33, 44);
        put(x, 1, 2, 0, INF, 1, INF);
        putVector(x, 2, 3, 4);
        Check.due("a column without numbers", x.solve(1, 2, 2), true);
        dueVector("a column without numbers", x, 2, 3, INF, 0, 0, 0);
        Check.badState("a part INFINITE", () -> x.solve(1, 2, 1));
        dueVector("what stays", x, 1, 9, 2, 1, 14, INF);
        put(x, 1, 2, INF, INF, INF, INF);
        Check.due("no numbers", x.solve(1, 0, 1), false);
        dueVector("no numbers", x, 1, INF, INF, 1, 14, INF);
        x.matrix(1, 1);
        Check.due("parts that do not matter", x.solve(1, 2, 3), false);
        dueVector("parts that do not matter", x, 3, INF, 0, 0, 0, 0);
        put(x, 1, 2, 0, 0, INF, INF);
        putVector(x, 0, 3, 4);
        Check.due("a row without numbers", x.solve(1, 0, 0), false);
        Check.noSuch("solve(4, 2, 0)", () -> x.solve(4, 2, 0));
        Check.noSuch("solve(1, -1, 0)", () -> x.solve(1, -1, 0));
        Check.noSuch("solve(1, 2, 4)", () -> x.solve(1, 2, 4));
        for (int sign = -1; sign <= 1; sign += 2) {
            Amoebary y = atLimit(sign);
            Check.due("solve to the limit", y.solve(1, 0, 0), true);
            Check.due("solve to the limit", y.partAt(0, 0), -99999 * sign);
            y.part(1, 0, -sign);
            Check.badState("solve beyond the limit", () -> y.solve(1, 1, 1));
            Check.due("what stays", y.partAt(1, 0), -sign);
        }
    }

    private static void project() {
        Amoebary x = new Amoebary();
        put(x, 0, 3, 0, 2, 1, 0, 0, -1, 1, 3, 0);
        putVector(x, 0, 4, 0, 7, 8, INF);
        putVector(x, 1, 1, 2, 3, 4, 5);
        Check.due("project(0, 0, 1)", x.project(0, 0, 1), false);
        dueVector("project(0, 0, 1)", x, 1, 6, 8, 7, 4, 5);
        Check.due("of what is in the hull", x.project(0, 1, 1), true);
        dueVector("of what is in the hull", x, 1, 6, 8, 7, 4, 5);
        Check.due("in its place", x.project(0, 0, 0), false);
        dueVector("in its place", x, 0, 6, 8, 7, 8, INF);
        put(x, 1, 1, 77);
        Check.due("of one row", x.project(1, 2, 2), true);
        x.entry(0, 2, 2, INF);
        Check.badState("an entry INFINITE", () -> x.project(0, 0, 1));
        put(x, 0, 5, 0, 0, 0, 0, 0, 0, 0, 0, 0, 0, 0, 0, 0, 0, 0, 0, 0, 0, 0, 0, 0, 0, 0, 0, 0);
        Check.badState("a part INFINITE", () -> x.project(0, 0, 1));
        dueVector("what stays", x, 1, 6, 8, 7, 4, 5);
        Check.due("to the greatest", x.project(0, 1, 1), false);
        dueVector("to the greatest", x, 1, 8, 8, 8, 8, 8);
        Check.noSuch("project(4, 0, 0)", () -> x.project(4, 0, 0));
        Check.noSuch("project(0, 4, 0)", () -> x.project(0, 4, 0));
        Check.noSuch("project(0, 0, -1)", () -> x.project(0, 0, -1));
        projectLimits();
    }

    /** Each of two points lies far off one column: the other column's part gets that far. */
    private static void projectLimits() {
        Amoebary x = new Amoebary();
        put(x, 0, 2, 0, 500, 0, 500);
        put(x, 1, 2, 0, INF, INF, 500);
        for (int k = 1; k < 199; k++) {
            x.multiply(0, 1, 0);
        }
        put(x, 1, 2, 0, INF, INF, 499);
        x.multiply(0, 1, 0);
        Check.due("at 99999", x.at(0, 1, 1), 99999);
        Check.due("project to the limit", x.project(0, 0, 0), false);
        dueVector("project to the limit", x, 0, 0, 99999);
        putVector(x, 0, 1, 0);
        Check.badState("project beyond the limit", () -> x.project(0, 0, 0));
        dueVector("what stays", x, 0, 1, 0);
    }

    private static void tree() {
        Amoebary x = new Amoebary();
        Check.due("INFINITE", x.tree(0), 0);
        x.entry(0, 0, 0, 1);
        Check.due("not 0 to itself", x.tree(0), 0);
        x.entry(0, 0, 0, 0);
        Check.due("one row", x.tree(0), 2);
        put(x, 0, 2, 0, 3, 3, 0);
        Check.due("two rows", x.tree(0), 2);
        put(x, 0, 2, 0, 3, 4, 0);
        Check.due("not the same back", x.tree(0), 0);
        put(x, 0, 2, 0, 3, INF, 0);
        Check.due("no number back", x.tree(0), 0);
        put(x, 0, 2, 0, -1, -1, 0);
        Check.due("below 0", x.tree(0), 1);
        put(x, 0, 3, 0, 1, 5, 1, 0, 3, 5, 3, 0);
        Check.due("longer than a way round", x.tree(0), 1);
        put(x, 0, 3, 0, 1, 4, 1, 0, 3, 4, 3, 0);
        Check.due("as long as a way round", x.tree(0), 2);
        put(x, 0, 4, 0, 1, 2, 1, 1, 0, 1, 2, 2, 1, 0, 1, 1, 2, 1, 0);
        Check.due("a ring of four", x.tree(0), 1);
        put(x, 0, 4, 0, 2, 3, 3, 2, 0, 3, 3, 3, 3, 0, 2, 3, 3, 2, 0);
        Check.due("two pairs", x.tree(0), 2);
        put(x, 0, 5, 0, 1, 1, 1, 1, 1, 0, 2, 2, 2, 1, 2, 0, 2, 2, 1, 2, 2, 0, 2, 1, 2, 2, 2, 0);
        Check.due("a star of five", x.tree(0), 2);
        x.entry(0, 3, 4, 1);
        x.entry(0, 4, 3, 1);
        Check.due("a star with a fork", x.tree(0), 2);
        x.entry(0, 1, 3, 1);
        x.entry(0, 3, 1, 1);
        Check.due("a star with short cuts", x.tree(0), 1);
        Check.noSuch("tree(4)", () -> x.tree(4));
        Check.noSuch("tree(-1)", () -> x.tree(-1));
    }
}
