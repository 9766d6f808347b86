import java.util.function.ObjIntConsumer;

/** The boundary cases of the promises 20 to 22; ahead of each test stands the sentence it is of. */
public final class VectorBoundaryTest {
    private static final int INF = Amoebary.INFINITE;

    public static void main(String[] args) {
        Bound.runAll(VectorBoundaryTest.class, 20, 22);
    }

    private static Amoebary of(int rows, int... entries) {
        return MatrixBoundaryTest.of(rows, entries);
    }

    /** The matrix 0 has two rows and these entries, the vector 0 these two parts and others behind. */
    private static Amoebary withVector(int[] entries, int part, int next) {
        Amoebary x = of(2, entries);
        MatrixTest.putVector(x, 0, part, next, 31, 41, INF);
        MatrixTest.putVector(x, 1, 11, 21, 31, INF, 51);
        return x;
    }

    /** The matrix 0 has one row, its entry is far from 0; the vector 0 has this part. */
    private static Amoebary farOne(int entry, int part) {
        Amoebary x = of(1, 0);
        Bound.raiseAll(x, 0, 1, 3, entry);
        x.part(0, 0, part);
        return x;
    }

    // ---- promise 20: solve

    /** "IndexOutOfBoundsException if there is no such matrix". */
    static void promise20Matrix() {
        Bound.index(3, "solve", Bound::filled, (x, wrong) -> x.solve(wrong, 1, 2));
    }

    /** "IndexOutOfBoundsException if there is no such ... vector, of either". */
    static void promise20Vector() {
        Bound.index(3, "solve for", Bound::filled, (x, wrong) -> x.solve(1, wrong, 2));
    }

    /** "IndexOutOfBoundsException if there is no such ... vector, of either". */
    static void promise20To() {
        Bound.index(3, "solve to", Bound::filled, (x, wrong) -> x.solve(1, 2, wrong));
    }

    /** "If several apply, the one that is named first in the throws clause is thrown." */
    static void promise20FirstNamed() {
        Bound.noSuch("no such to, and INFINITE", () -> {
            Amoebary x = Bound.filled();
            x.part(0, 0, INF);
            return x;
        }, x -> x.solve(0, 0, 4));
        Bound.noSuch("no such to, and too far", () -> farOne(-99999, 1), x -> x.solve(0, 0, -1));
    }

    /** "If one of the parts that matter is INFINITE": of n rows the first n do. */
    static void promise20PartsThatMatter() {
        partsThatMatter((x, to) -> x.solve(0, 0, to));
    }

    /** The matrix 0 and the vector 0 are taken, with each number of rows and each part INFINITE. */
    private static void partsThatMatter(ObjIntConsumer<Amoebary> run) {
        for (int r = 1; r <= 5; r++) {
            for (int p = 0; p < 5; p++) {
                int rows = r;
                int place = p;
                if (place >= rows) {
                    run.accept(infinitePart(rows, place), 1);
                    continue;
                }
                for (int into = 0; into < 2; into++) {
                    int to = into;
                    Bound.badState("part " + p + " of " + r, () -> infinitePart(rows, place),
                            x -> run.accept(x, to));
                }
            }
        }
    }

    private static Amoebary infinitePart(int rows, int place) {
        Amoebary x = MatrixBoundaryTest.ofAll(rows, 0);
        x.part(0, place, INF);
        return x;
    }

    /** INFINITE parts of what it is put into do not matter. */
    static void promise20ToMayBeInfinite() {
        Amoebary x = of(1, 3);
        x.part(1, 0, INF);
        Check.due("solve", x.solve(0, 0, 1), true);
        Check.due("partAt", x.partAt(1, 0), -3);
    }

    /** "INFINITE if there are none such": a column without numbers; this is no number too far. */
    static void promise20ColumnWithoutNumbers() {
        Amoebary x = withVector(new int[] {INF, 1, INF, 2}, 5, 6);
        Check.due("the first", x.solve(0, 0, 1), true);
        MatrixTest.dueVector("the first", x, 1, INF, 4, 31, INF, 51);
        x = withVector(new int[] {1, INF, 2, INF}, 5, 6);
        Check.due("the last, in its place", x.solve(0, 0, 0), true);
        MatrixTest.dueVector("the last, in its place", x, 0, 4, INF, 31, 41, INF);
        x = new Amoebary();
        Check.due("the only one", x.solve(0, 0, 0), false);
        MatrixTest.dueVector("the only one", x, 0, INF, 0);
    }

    /** "In each row i the least ... is the part i": without numbers in a row it is INFINITE. */
    static void promise20RowWithoutNumbers() {
        Check.due("the first", withVector(new int[] {INF, INF, 1, 2}, 5, 6).solve(0, 0, 1), false);
        Check.due("the last", withVector(new int[] {1, 2, INF, INF}, 5, 6).solve(0, 0, 1), false);
    }

    /** "Whether it solves or not, is put into a vector"; 0 too much in a row solves, 1 does not. */
    static void promise20SolvesOrNot() {
        Amoebary x = withVector(new int[] {0, 5, 1, 2}, 10, 8);
        Check.due("as much", x.solve(0, 0, 1), true);
        MatrixTest.dueVector("as much", x, 1, 10, 6, 31, INF, 51);
        x = withVector(new int[] {0, 5, 1, 2}, 10, 6);
        Check.due("1 too much in the last row", x.solve(0, 0, 1), false);
        MatrixTest.dueVector("1 too much in the last row", x, 1, 10, 5, 31, INF, 51);
        x = withVector(new int[] {0, 5, 1, 2}, 10, 14);
        Check.due("too much in the first row", x.solve(0, 0, 1), false);
        MatrixTest.dueVector("too much in the first row", x, 1, 13, 12, 31, INF, 51);
    }

    /** "A part of the solution would be a number below -99999 or above 99999". */
    static void promise20Numbers() {
        for (int sign = -1; sign <= 1; sign += 2) {
            int one = sign;
            Amoebary x = farOne(-99999 * sign, 0);
            Check.due("to the limit", x.solve(0, 0, 0), true);
            Check.due("at the limit", x.partAt(0, 0), 99999 * sign);
            Bound.badState("beyond", () -> farOne(-99999 * one, one), y -> y.solve(0, 0, 0));
            Bound.badState("far beyond", () -> {
                Amoebary y = farOne(-99999 * one, 0);
                y.solve(0, 0, 0);
                return y;
            }, y -> y.solve(0, 0, 1));
        }
        Bound.badState("the last part", () -> {
            Amoebary y = withVector(new int[] {0, INF, INF, -1}, 0, 1);
            Bound.raiseColumn(y, 0, 2, 3, -99998, 1);
            return y;
        }, y -> y.solve(0, 0, 0));
    }

    /** "The greatest" is the part: that another row's goes beyond, below, does not matter. */
    static void promise20TheGreatestMatters() {
        Amoebary x = of(2, 0, 0, 0, 0);
        Bound.raiseAll(x, 0, 2, 3, 99999);
        x.entry(0, 0, 0, 0);
        x.entry(0, 0, 1, 0);
        MatrixTest.putVector(x, 0, 5, -5);
        Check.due("solve", x.solve(0, 0, 1), false);
        MatrixTest.dueVector("solve", x, 1, 5, 5, 0, 0, 0);
    }

    /** "Perhaps the same one, whose other parts stay"; of five rows there are no others. */
    static void promise20OtherPartsStay() {
        for (int rows = 1; rows <= 5; rows++) {
            Amoebary x = MatrixBoundaryTest.ofAll(rows, 1);
            for (int i = 0; i < 10; i++) {
                x.part(i / 5, i % 5, 7);
            }
            Check.due("into another one", x.solve(0, 0, 1), true);
            Check.due("in its place", x.solve(0, 0, 0), true);
            for (int i = 0; i < 10; i++) {
                Check.due("part " + i, x.partAt(i / 5, i % 5), i % 5 < rows ? 6 : 7);
            }
        }
    }

    // ---- promise 21: project

    /** "IndexOutOfBoundsException if there is no such matrix". */
    static void promise21Matrix() {
        Bound.index(3, "project to the hull of", Bound::filled, (x, wrong) -> x.project(wrong, 1, 2));
    }

    /** "IndexOutOfBoundsException if there is no such ... vector, of either". */
    static void promise21Vector() {
        Bound.index(3, "project", Bound::filled, (x, wrong) -> x.project(1, wrong, 2));
    }

    /** "IndexOutOfBoundsException if there is no such ... vector, of either". */
    static void promise21To() {
        Bound.index(3, "project into", Bound::filled, (x, wrong) -> x.project(1, 2, wrong));
    }

    /** "If several apply, the one that is named first in the throws clause is thrown." */
    static void promise21FirstNamed() {
        Bound.noSuch("no such to, and INFINITE", Amoebary::new, x -> x.project(0, 0, 4));
        Bound.noSuch("no such vector, and too far", () -> farHull(1), x -> x.project(0, 4, 0));
    }

    /** "If an entry ... is INFINITE": any one. */
    static void promise21Entries() {
        Bound.badState("of one row", Amoebary::new, x -> x.project(0, 0, 1));
        for (int i = 0; i < 25; i++) {
            int entry = i;
            Bound.badState("entry " + i, () -> {
                Amoebary x = MatrixBoundaryTest.ofAll(5, 0);
                x.entry(0, entry / 5, entry % 5, INF);
                return x;
            }, x -> x.project(0, 0, 1));
        }
    }

    /** "If ... one of the parts that matter, is INFINITE": of n rows the first n do. */
    static void promise21PartsThatMatter() {
        partsThatMatter((x, to) -> x.project(0, 0, to));
    }

    /** INFINITE parts of what it is put into do not matter. */
    static void promise21ToMayBeInfinite() {
        Amoebary x = of(1, 3);
        x.part(1, 0, INF);
        Check.due("project", x.project(0, 0, 1), true);
        Check.due("partAt", x.partAt(1, 0), 0);
    }

    /** Both points of the matrix 0 have 0 and 99999; the vector 0 has the part, and 0. */
    private static Amoebary farHull(int part) {
        Amoebary x = of(2, 0, 0, 0, 0);
        Bound.raiseColumn(x, 0, 2, 3, 99999, 1);
        x.part(0, 0, part);
        return x;
    }

    /** "A part would be below -99999 or above 99999". */
    static void promise21Numbers() {
        Amoebary x = farHull(0);
        Check.due("to the limit", x.project(0, 0, 0), false);
        MatrixTest.dueVector("to the limit", x, 0, 0, 99999, 0, 0, 0);
        Bound.badState("beyond", () -> farHull(1), y -> y.project(0, 0, 0));
        Bound.badState("beyond", () -> farHull(1), y -> y.project(0, 0, 1));
        x = farOne(99999, 0);
        x.solve(0, 0, 0);
        Check.due("the least part", x.project(0, 0, 1), true);
        Check.due("the least part", x.partAt(1, 0), -99999);
    }

    /** The part is "the least, over all rows": that another row's goes beyond does not matter. */
    static void promise21TheLeastMatters() {
        Amoebary x = farHull(1);
        x.entry(0, 0, 1, 5);
        Check.due("project", x.project(0, 0, 1), false);
        MatrixTest.dueVector("project", x, 1, 1, 6, 0, 0, 0);
    }

    /** "The vector is in the hull, if it is projected to itself": a point, and beside it by 1. */
    static void promise21InTheHullOrNot() {
        int[] points = {0, 5, 3, 0};
        Check.due("a point", withVector(points, 0, 5).project(0, 0, 1), true);
        Check.due("the other point", withVector(points, 3, 0).project(0, 0, 1), true);
        Check.due("between", withVector(points, 0, 0).project(0, 0, 1), true);
        Amoebary x = withVector(points, 0, 6);
        Check.due("beside one", x.project(0, 0, 1), false);
        MatrixTest.dueVector("beside one", x, 1, 1, 6, 31, INF, 51);
        x = withVector(points, 4, 0);
        Check.due("beside the other, in its place", x.project(0, 0, 0), false);
        MatrixTest.dueVector("beside the other, in its place", x, 0, 4, 1, 31, 41, INF);
    }

    /** "Perhaps the same one, whose other parts stay"; of five rows there are no others. */
    static void promise21OtherPartsStay() {
        for (int rows = 1; rows <= 5; rows++) {
            Amoebary x = MatrixBoundaryTest.ofAll(rows, 1);
            for (int i = 0; i < 10; i++) {
                x.part(i / 5, i % 5, i % 5 == 0 ? 8 : 7);
            }
            Check.due("into another one", x.project(0, 0, 1), rows == 1);
            Check.due("in its place", x.project(0, 0, 0), rows == 1);
            for (int i = 0; i < 10; i++) {
                Check.due("part " + i, x.partAt(i / 5, i % 5), i % 5 < rows ? 8 : 7);
            }
        }
    }

    // ---- promise 22: tree

    /** "matrix: 0 to 3"; "IndexOutOfBoundsException if there is no such matrix". */
    static void promise22Matrix() {
        Bound.index(3, "tree of", Bound::filled, Amoebary::tree);
    }

    /** "If its entries are numbers": one alone, anywhere, that is not will do. */
    static void promise22Entries() {
        Check.due("of one row", new Amoebary().tree(0), 0);
        for (int i = 0; i < 25; i++) {
            Amoebary x = MatrixBoundaryTest.ofAll(5, 0);
            x.entry(0, i / 5, i % 5, INF);
            x.entry(0, i % 5, i / 5, INF);
            Check.due("entry " + i, x.tree(0), 0);
        }
    }

    /** "0 from a row to itself": in the first and in the last row, above and below 0. */
    static void promise22ToItself() {
        Check.due("0, of one row", of(1, 0).tree(0), 2);
        for (int row = 0; row < 5; row++) {
            for (int wrong = -1; wrong <= 1; wrong += 2) {
                Amoebary x = MatrixBoundaryTest.ofAll(5, 0);
                Check.due("0", x.tree(0), 2);
                x.entry(0, row, row, wrong);
                Check.due(wrong + " in row " + row, x.tree(0), 0);
            }
        }
    }

    /** "The same there and back": one entry that is one more or less. */
    static void promise22ThereAndBack() {
        for (int i = 0; i < 25; i++) {
            if (i / 5 != i % 5) {
                Amoebary x = star();
                x.entry(0, i / 5, i % 5, 1);
                Check.due("less, entry " + i, x.tree(0), 0);
                x.entry(0, i / 5, i % 5, 3);
                Check.due("more, entry " + i, x.tree(0), 0);
            }
        }
    }

    /** Five rows, each 2 from each other one. */
    private static Amoebary star() {
        Amoebary x = MatrixBoundaryTest.ofAll(5, 2);
        for (int i = 0; i < 5; i++) {
            x.entry(0, i, i, 0);
        }
        return x;
    }

    /** "For any four rows ... (some may be alike)": there are fewer rows than four. */
    static void promise22FewerRowsThanFour() {
        Check.due("two rows", of(2, 0, 999, 999, 0).tree(0), 2);
        Check.due("two rows, at 0", of(2, 0, 0, 0, 0).tree(0), 2);
        Check.due("two rows, below 0", of(2, 0, -1, -1, 0).tree(0), 1);
        Check.due("three rows", of(3, 0, 1, 4, 1, 0, 3, 4, 3, 0).tree(0), 2);
        Check.due("three rows, 1 too far", of(3, 0, 1, 5, 1, 0, 3, 5, 3, 0).tree(0), 1);
    }

    /** "The two greatest are the same": the third is less or the same; the two are not 1 off. */
    static void promise22TheTwoGreatest() {
        Check.due("all the same", star().tree(0), 2);
        for (int pair = 0; pair < 10; pair++) {
            Check.due("nearer by 1, pair " + pair, starBut(pair, 1).tree(0), 2);
            Check.due("as near as it gets, pair " + pair, starBut(pair, 0).tree(0), 2);
            Check.due("farther by 1, pair " + pair, starBut(pair, 3).tree(0), 1);
        }
        Amoebary x = starBut(0, 1);
        x.entry(0, 2, 3, 1);
        x.entry(0, 3, 2, 1);
        Check.due("two pairs", x.tree(0), 2);
        x.entry(0, 1, 2, 1);
        x.entry(0, 2, 1, 1);
        Check.due("three in a row", x.tree(0), 1);
    }

    /** The star, but for one of the ten pairs of rows. */
    private static Amoebary starBut(int pair, int distance) {
        Amoebary x = star();
        int count = 0;
        for (int i = 0; i < 5; i++) {
            for (int j = i + 1; j < 5; j++) {
                if (count == pair) {
                    x.entry(0, i, j, distance);
                    x.entry(0, j, i, distance);
                }
                count++;
            }
        }
        return x;
    }

    /** Distances that no caller may give. */
    static void promise22Farthest() {
        Amoebary x = new Amoebary();
        MatrixTest.put(x, 0, 2, INF, 0, 0, INF);
        Bound.raiseAll(x, 0, 2, 3, 99999);
        x.entry(0, 0, 0, 0);
        x.entry(0, 1, 1, 0);
        Check.due("99999", x.tree(0), 2);
        MatrixTest.put(x, 0, 3, INF, 0, 0, 0, INF, 0, 0, 0, INF);
        Bound.raiseAll(x, 0, 3, 3, -99999);
        for (int i = 0; i < 3; i++) {
            x.entry(0, i, i, 0);
        }
        Check.due("-99999", x.tree(0), 1);
    }
}
