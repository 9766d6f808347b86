/** Promises 1 to 9: polynomials. */
public final class PolynomialTest {
    private static final int INF = Amoebary.INFINITE;

    public static void main(String[] args) {
        newObject();
        coefficient();
        value();
        roots();
        root();
        isSpare();
        areSame();
        sum();
        product();
        Check.end("PolynomialTest");
    }

    static Amoebary of(int... coefficients) {
        Amoebary x = new Amoebary();
        put(x, 0, coefficients);
        return x;
    }

    static void put(Amoebary x, int poly, int... coefficients) {
        for (int i = 0; i < 9; i++) {
            x.coefficient(poly, i, i < coefficients.length ? coefficients[i] : INF);
        }
    }

    static void dueAll(String call, Amoebary x, int poly, int... coefficients) {
        for (int i = 0; i < 9; i++) {
            Check.due(call + " at " + i, x.coefficient(poly, i, INF),
                    i < coefficients.length ? coefficients[i] : INF);
        }
    }

    private static void newObject() {
        Amoebary x = new Amoebary();
        for (int p = 0; p < 4; p++) {
            Check.due("new value", x.value(p, 3), INF);
            Check.due("new roots", x.roots(p), 0);
            dueAll("new coefficient", x, p);
            Check.due("new at", x.at(p, 0, 0), INF);
            Check.due("new matrix", x.matrix(p, 1), 1);
            for (int i = 0; i < 5; i++) {
                Check.due("new part", x.partAt(p, i), 0);
            }
        }
        for (int v = 0; v < 5; v++) {
            Check.due("new chips", x.chipsAt(v), 0);
            for (int w = v + 1; w < 5; w++) {
                Check.due("new edges", x.edges(v, w, 0), 0);
            }
        }
    }

    private static void coefficient() {
        Amoebary x = new Amoebary();
        Check.due("coefficient(3, 8, -999)", x.coefficient(3, 8, -999), INF);
        Check.due("coefficient(3, 8, 999)", x.coefficient(3, 8, 999), -999);
        Check.due("coefficient(3, 8, INFINITE)", x.coefficient(3, 8, INF), 999);
        Check.due("coefficient(3, 8, 0)", x.coefficient(3, 8, 0), INF);
        Check.due("coefficient(0, 0, 1)", x.coefficient(0, 0, 1), INF);
        for (int p : new int[] {-1, 4, Integer.MIN_VALUE, Integer.MAX_VALUE}) {
            Check.noSuch("coefficient of " + p, () -> x.coefficient(p, 0, 0));
            Check.noSuch("coefficient of " + p + " beyond", () -> x.coefficient(p, 0, 1000));
        }
        for (int i : new int[] {-1, 9, Integer.MIN_VALUE, Integer.MAX_VALUE}) {
            Check.noSuch("coefficient at " + i, () -> x.coefficient(0, i, 0));
            Check.noSuch("coefficient beyond at " + i, () -> x.coefficient(0, i, 1000));
        }
        for (int n : new int[] {-1000, 1000, INF - 1, INF + 1, -INF}) {
            Check.badArgument("coefficient of " + n, () -> x.coefficient(0, 0, n));
        }
        Check.due("what stays", x.coefficient(0, 0, 2), 1);
    }

    private static void value() {
        Amoebary x = of(6, 2, 0, INF, 1);
        Check.due("value(0, 0)", x.value(0, 0), 0);
        Check.due("value(0, -3)", x.value(0, -3), -11);
        Check.due("value(0, 100)", x.value(0, 100), 6);
        Check.due("value(0, 999)", x.value(0, 999), 6);
        Check.due("value(0, -999)", x.value(0, -999), 1 - 4 * 999);
        put(x, 1, INF, INF, INF, INF, INF, INF, INF, INF, -999);
        Check.due("value(1, -999)", x.value(1, -999), -999 - 8 * 999);
        Check.due("value(1, 999)", x.value(1, 999), -999 + 8 * 999);
        Check.due("value(2, 5)", x.value(2, 5), INF);
        Check.noSuch("value(-1, 0)", () -> x.value(-1, 0));
        Check.noSuch("value(4, 1000)", () -> x.value(4, 1000));
        Check.badArgument("value(0, 1000)", () -> x.value(0, 1000));
        Check.badArgument("value(0, -1000)", () -> x.value(0, -1000));
        Check.badArgument("value(2, INFINITE)", () -> x.value(2, INF));
    }

    private static void roots() {
        Check.due("roots without terms", new Amoebary().roots(0), 0);
        Check.due("roots of one term", of(INF, INF, 5).roots(0), 0);
        Check.due("roots of two", of(3, INF, INF, 3).roots(0), 1);
        Check.due("roots of a line", of(4, 3, 2, 1, 0, -1, -2, -3, -4).roots(0), 1);
        Check.due("roots of a bow", of(16, 9, 4, 1, 0, 1, 4, 9, 16).roots(0), 8);
        Check.due("roots of a hill", of(0, 1, 2, 1, 0).roots(0), 1);
        Check.noSuch("roots(-1)", () -> new Amoebary().roots(-1));
        Check.noSuch("roots(4)", () -> new Amoebary().roots(4));
    }

    static void dueRoot(Amoebary x, int root, int above, int below, int counts) {
        Check.due("root " + root + " above", x.root(0, root, 0), above);
        Check.due("root " + root + " below", x.root(0, root, 1), below);
        Check.due("root " + root + " counts", x.root(0, root, 2), counts);
    }

    private static void root() {
        Amoebary x = of(6, 2, 0, INF, 1);
        dueRoot(x, 0, -1, 2, 2);
        dueRoot(x, 1, 2, 1, 1);
        dueRoot(x, 2, 4, 1, 1);
        Check.noSuch("root(0, 3, 0)", () -> x.root(0, 3, 0));
        Check.noSuch("root(0, -1, 0)", () -> x.root(0, -1, 0));
        Check.noSuch("root(0, 3, 3)", () -> x.root(0, 3, 3));
        Check.noSuch("root(4, 0, 3)", () -> x.root(4, 0, 3));
        Check.noSuch("root(-1, 0, 0)", () -> x.root(-1, 0, 0));
        Check.noSuch("root(1, 0, 0)", () -> x.root(1, 0, 0));
        Check.badArgument("root(0, 2, 3)", () -> x.root(0, 2, 3));
        Check.badArgument("root(0, 0, -1)", () -> x.root(0, 0, -1));
        dueRoot(of(5, INF, INF, INF, 5), 0, 0, 1, 4);
        dueRoot(of(6, INF, INF, INF, INF, INF, 2), 0, 2, 3, 6);
        dueRoot(of(INF, -999, INF, INF, INF, INF, INF, INF, 999), 0, -1998, 7, 7);
        dueRoot(of(0, INF, INF, INF, INF, INF, INF, INF, 12), 0, -3, 2, 8);
        dueRoot(of(4, 3, 2, 1, 0, -1, -2, -3, -4), 0, 1, 1, 8);
    }

    private static void isSpare() {
        Amoebary x = of(6, 2, 0, 1, 1);
        boolean[] want = {false, false, false, true, false, false, false, false, false};
        for (int i = 0; i < 9; i++) {
            Check.due("isSpare(0, " + i + ")", x.isSpare(0, i), want[i]);
        }
        Amoebary line = of(INF, 4, 2, 0, -2);
        Check.due("the first of a line", line.isSpare(0, 1), false);
        Check.due("one that ties", line.isSpare(0, 2), true);
        Check.due("another that ties", line.isSpare(0, 3), true);
        Check.due("the last of a line", line.isSpare(0, 4), false);
        Check.due("no term", line.isSpare(0, 0), false);
        Check.due("the only term", of(INF, INF, 9).isSpare(0, 2), false);
        Amoebary near = of(0, INF, INF, 1, INF, INF, INF, 2);
        Check.due("a fraction above the line", near.isSpare(0, 3), true);
        near.coefficient(0, 3, 0);
        Check.due("below the line", near.isSpare(0, 3), false);
        Check.noSuch("isSpare(4, 0)", () -> x.isSpare(4, 0));
        Check.noSuch("isSpare(-1, 0)", () -> x.isSpare(-1, 0));
        Check.noSuch("isSpare(0, 9)", () -> x.isSpare(0, 9));
        Check.noSuch("isSpare(0, -1)", () -> x.isSpare(0, -1));
    }

    private static void areSame() {
        Amoebary x = of(6, 2, 0, 1, 1);
        put(x, 1, 6, 2, 0, INF, 1);
        Check.due("same but for a spare term", x.areSame(0, 1), true);
        Check.due("the other way", x.areSame(1, 0), true);
        Check.due("with itself", x.areSame(0, 0), true);
        Check.due("none and none", x.areSame(2, 3), true);
        Check.due("none and some", x.areSame(2, 0), false);
        x.coefficient(1, 4, 2);
        Check.due("another coefficient", x.areSame(0, 1), false);
        put(x, 1, 6, 2, 0, INF, INF, 1);
        Check.due("another place", x.areSame(0, 1), false);
        put(x, 1, 6, 2, 0);
        Check.due("fewer corners", x.areSame(0, 1), false);
        Check.noSuch("areSame(4, 0)", () -> x.areSame(4, 0));
        Check.noSuch("areSame(0, 4)", () -> x.areSame(0, 4));
        Check.noSuch("areSame(-1, 0)", () -> x.areSame(-1, 0));
        Check.noSuch("areSame(0, -1)", () -> x.areSame(0, -1));
    }

    private static void sum() {
        Amoebary x = of(6, INF, 0, 1);
        put(x, 1, 7, INF, -1, INF, 4);
        Check.due("sum(0, 1, 2)", x.sum(0, 1, 2), 4);
        Check.due("sum(2, 2, 2)", x.sum(2, 2, 2), 4);
        dueAll("sum(0, 1, 2)", x, 2, 6, INF, -1, 1, 4);
        Check.due("sum(0, 1, 1)", x.sum(0, 1, 1), 4);
        dueAll("sum(0, 1, 1)", x, 1, 6, INF, -1, 1, 4);
        Check.due("sum(0, 3, 0)", x.sum(0, 3, 0), 3);
        Check.due("sum(3, 3, 3)", x.sum(3, 3, 3), 0);
        Check.noSuch("sum(4, 0, 0)", () -> x.sum(4, 0, 0));
        Check.noSuch("sum(0, -1, 0)", () -> x.sum(0, -1, 0));
        Check.noSuch("sum(0, 3, 4)", () -> x.sum(0, 3, 4));
        dueAll("what stays", x, 0, 6, INF, 0, 1);
    }

    private static void product() {
        Amoebary x = of(6, 2, 0, INF, 1);
        Check.due("product(0, 0, 1)", x.product(0, 0, 1), 8);
        Check.due("product(3, 1, 2)", x.product(3, 1, 2), 0);
        Check.due("a root counts double", x.root(1, 0, 2), 4);
        Check.badState("product(0, 1, 1)", () -> x.product(0, 1, 1));
        Check.noSuch("product(0, 1, 4)", () -> x.product(0, 1, 4));
        Check.noSuch("product(4, 0, 0)", () -> x.product(4, 0, 0));
        Check.noSuch("product(0, -1, 0)", () -> x.product(0, -1, 0));
        dueAll("product(0, 0, 1)", x, 1, 12, 8, 4, 2, 0, 3, 1, INF, 2);
        dueAll("none", x, 2);
        put(x, 1, INF, 5, INF, 7);
        Check.due("product(0, 1, 0)", x.product(0, 1, 0), 6);
        dueAll("product(0, 1, 0)", x, 0, INF, 11, 7, 5, 9, 6, INF, 8);
        put(x, 0, INF, INF, INF, INF, 1);
        Check.due("at 8", x.product(0, 0, 1), 1);
        dueAll("at 8", x, 1, INF, INF, INF, INF, INF, INF, INF, INF, 2);
        put(x, 1, INF, INF, INF, INF, INF, 1);
        Check.badState("at 9", () -> x.product(0, 1, 2));
        productLimits(999);
        productLimits(-999);
    }

    private static void productLimits(int step) {
        Amoebary x = of(step);
        put(x, 1, step);
        for (int k = 2; k <= 10; k++) {
            Check.due("product to " + k * step, x.product(0, 1, 1), 1);
        }
        int sign = step > 0 ? 1 : -1;
        put(x, 0, 9 * sign);
        Check.due("product to the limit", x.product(0, 1, 1), 1);
        Check.due("at the limit", x.value(1, 0), 9999 * sign);
        put(x, 0, sign);
        Check.badState("product beyond the limit", () -> x.product(0, 1, 2));
        Check.badState("product beyond the limit in its place", () -> x.product(0, 1, 1));
        dueAll("what stays", x, 1, 9999 * sign);
        dueAll("what stays", x, 2);
    }
}
