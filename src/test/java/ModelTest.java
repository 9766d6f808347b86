import java.util.function.LongSupplier;

/**
 * Long runs of calls on an object and on the model, which must answer alike; the arguments follow
 * from a number that is counted on by a rule, so that each run of this test makes the same calls.
 */
public final class ModelTest {
    private static final int RUNS = 1500;
    private static final int CALLS = 300;

    private final Amoebary real = new Amoebary();
    private final Model model = new Model();
    private final int run;
    private long seed;
    private int wide;
    private int call;

    private ModelTest(int run) {
        this.run = run;
        this.seed = run * 7919L + 17;
    }

    public static void main(String[] args) {
        for (int run = 0; run < RUNS; run++) {
            new ModelTest(run).go();
        }
        Check.end("ModelTest");
    }

    private int any(int count) {
        seed = seed * 6364136223846793005L + 1442695040888963407L;
        return (int) ((seed >>> 33) % count);
    }

    /** Mostly 0 to count - 1, at times just beyond or far off. */
    private int index(int count) {
        int choice = any(60);
        if (choice == 0) {
            return -1;
        }
        if (choice == 1) {
            return count;
        }
        return choice == 2 && any(4) == 0 ? (any(2) == 0 ? Integer.MIN_VALUE : Integer.MAX_VALUE)
                : any(count);
    }

    private int number() {
        int choice = any(40);
        if (choice == 0) {
            return any(2) == 0 ? 1000 : -1000;
        }
        if (choice == 1) {
            return Model.INF + any(3) - 1;
        }
        if (choice < 6) {
            return Model.INF;
        }
        return wide == 0 ? any(7) - 3 : wide == 1 ? any(1999) - 999 : 999 - any(2) * 1998;
    }

    private void go() {
        wide = run % 3;
        int kind = run / 3 % 4;
        for (call = 0; call < CALLS; call++) {
            if (kind == 0 || kind == 3 && any(3) == 0) {
                callPolynomials();
            } else if (kind == 1 || kind == 3 && any(2) == 0) {
                callMatrices();
            } else {
                callChips();
            }
        }
        compareAll();
    }

    private void same(String what, LongSupplier got, LongSupplier want) {
        String gotten = told(got);
        String wanted = told(want);
        if (!gotten.equals(wanted)) {
            Check.note("run " + run + " call " + call + ": " + what + " answered " + gotten
                    + ", due is " + wanted);
        }
    }

    private static String told(LongSupplier answer) {
        try {
            return String.valueOf(answer.getAsLong());
        } catch (RuntimeException e) {
            return e.getClass().getName();
        }
    }

    private void callPolynomials() {
        int a = index(4);
        int b = index(4);
        int c = index(4);
        int i = index(9);
        int n = number();
        switch (any(12)) {
            case 0:
                same("value", () -> real.value(a, n), () -> model.value(a, n));
                return;
            case 1:
                same("roots", () -> real.roots(a), () -> model.roots(a));
                return;
            case 2:
            case 3:
                int root = index(4);
                int what = index(3);
                same("root", () -> real.root(a, root, what), () -> model.root(a, root, what));
                return;
            case 4:
                same("isSpare", () -> real.isSpare(a, i) ? 1 : 0, () -> model.isSpare(a, i) ? 1 : 0);
                return;
            case 5:
                same("areSame", () -> real.areSame(a, b) ? 1 : 0, () -> model.areSame(a, b) ? 1 : 0);
                return;
            case 6:
                same("sum", () -> real.sum(a, b, c), () -> model.sum(a, b, c));
                return;
            case 7:
                clearPlaces(a);
                same("product", () -> real.product(a, b, c), () -> model.product(a, b, c));
                return;
            default:
                same("coefficient", () -> real.coefficient(a, i, n), () -> model.coefficient(a, i, n));
        }
    }

    /** Without this hardly any product would have all its terms at places that there are. */
    private void clearPlaces(int poly) {
        if (any(3) > 0 && call < CALLS - 10) {
            for (int i = any(4); i < 9; i++) {
                int place = i;
                call++;
                same("coefficient", () -> real.coefficient(poly, place, Model.INF),
                        () -> model.coefficient(poly, place, Model.INF));
            }
        }
    }

    private void callMatrices() {
        int a = index(4);
        int b = index(4);
        int c = index(4);
        int i = index(5);
        int j = index(5);
        int n = number();
        switch (any(24)) {
            case 0:
                int rows = any(12) == 0 ? any(8) : 1 + any(5);
                same("matrix", () -> real.matrix(a, rows), () -> model.matrix(a, rows));
                return;
            case 1:
                same("at", () -> real.at(a, i, j), () -> model.at(a, i, j));
                return;
            case 2:
            case 3:
            case 4:
                same("part", () -> real.part(a, i, n), () -> model.part(a, i, n));
                return;
            case 5:
                same("partAt", () -> real.partAt(a, i), () -> model.partAt(a, i));
                return;
            case 6:
            case 7:
                same("multiply", () -> real.multiply(a, b, c), () -> model.multiply(a, b, c));
                return;
            case 8:
                same("star", () -> real.star(a, c), () -> model.star(a, c));
                return;
            case 9:
            case 10:
                int what = index(2);
                same("mean", () -> real.mean(a, what), () -> model.mean(a, what));
                return;
            case 11:
                same("determinant", () -> real.determinant(a), () -> model.determinant(a));
                return;
            case 12:
                same("ways", () -> real.ways(a), () -> model.ways(a));
                return;
            case 13:
                same("solve", () -> real.solve(a, b, c) ? 1 : 0, () -> model.solve(a, b, c) ? 1 : 0);
                return;
            case 14:
                same("project", () -> real.project(a, b, c) ? 1 : 0,
                        () -> model.project(a, b, c) ? 1 : 0);
                return;
            case 15:
                makeDistances(a);
                same("tree", () -> real.tree(a), () -> model.tree(a));
                return;
            default:
                same("entry", () -> real.entry(a, i, j, n), () -> model.entry(a, i, j, n));
        }
    }

    /** Without this hardly any matrix would be of distances. */
    private void makeDistances(int matrix) {
        if (any(4) == 0 || call > CALLS - 30) {
            return;
        }
        int rows = 2 + any(4);
        int most = 1 + any(3);
        same("matrix", () -> real.matrix(matrix, rows), () -> model.matrix(matrix, rows));
        for (int i = 0; i < rows * rows; i++) {
            int row = i / rows;
            int column = i % rows;
            int number = row == column ? 0 : 1 + any(most);
            if (row <= column) {
                same("entry", () -> real.entry(matrix, row, column, number),
                        () -> model.entry(matrix, row, column, number));
                same("entry", () -> real.entry(matrix, column, row, number),
                        () -> model.entry(matrix, column, row, number));
            }
        }
        call += 30;
    }

    private void callChips() {
        int v = index(5);
        int w = index(5);
        switch (any(12)) {
            case 0:
                same("chipsAt", () -> real.chipsAt(v), () -> model.chipsAt(v));
                return;
            case 1:
                same("fire", () -> real.fire(v), () -> model.fire(v));
                return;
            case 2:
            case 3:
                same("reduced", () -> real.reduced(v, w), () -> model.reduced(v, w));
                return;
            case 4:
                same("rank", () -> real.rank(), () -> model.rank());
                return;
            case 5:
                same("restRank", () -> real.restRank(), () -> model.restRank());
                return;
            case 6:
                int what = index(6);
                same("graph", () -> real.graph(what), () -> model.graph(what));
                return;
            case 7:
            case 8:
                int chips = any(30) == 0 ? 100 - any(2) * 200 : wide == 0 ? any(9) - 3
                        : wide == 1 ? any(199) - 99 : 99 - any(2) * 198;
                same("chips", () -> real.chips(v, chips), () -> model.chips(v, chips));
                return;
            case 9:
                setDegree(any(11) - 1);
                return;
            default:
                int edges = any(20) == 0 ? any(2) * 5 - 1 : any(2) * any(4);
                same("edges", () -> real.edges(v, w, edges), () -> model.edges(v, w, edges));
        }
    }

    /** Without this hardly any degree would be one that a rank is told of. */
    private void setDegree(int degree) {
        int vertex = any(2) == 0 ? 0 : any(5);
        int chips = model.chips[vertex] + degree - model.graph(4);
        same("chips", () -> real.chips(vertex, chips), () -> model.chips(vertex, chips));
        same("rank", () -> real.rank(), () -> model.rank());
        call++;
    }

    /** Reads all there is, what is out of a caller's reach by putting INFINITE there. */
    private void compareAll() {
        for (int p = 0; p < 4; p++) {
            for (int i = 0; i < 25; i++) {
                int held = p;
                int row = i / 5;
                int column = i % 5;
                if (i < 9) {
                    int place = i;
                    same("coefficient", () -> real.coefficient(held, place, Model.INF),
                            () -> model.coefficient(held, place, Model.INF));
                }
                if (i < 5) {
                    same("partAt", () -> real.partAt(held, column), () -> model.partAt(held, column));
                }
                if (row < model.rows[p] && column < model.rows[p]) {
                    same("at", () -> real.at(held, row, column), () -> model.at(held, row, column));
                }
            }
        }
        for (int v = 0; v < 5; v++) {
            int vertex = v;
            same("chipsAt", () -> real.chipsAt(vertex), () -> model.chipsAt(vertex));
        }
    }
}
