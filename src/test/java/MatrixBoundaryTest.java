/** The boundary cases of the promises 10 to 19; ahead of each test stands the sentence it is of. */
public final class MatrixBoundaryTest {
    private static final int INF = Amoebary.INFINITE;

    public static void main(String[] args) {
        Bound.runAll(MatrixBoundaryTest.class, 10, 19);
    }

    /** The matrix 0 has these entries. */
    static Amoebary of(int rows, int... entries) {
        Amoebary x = new Amoebary();
        MatrixTest.put(x, 0, rows, entries);
        return x;
    }

    /** The matrix 0 has as many rows, all of the same number, or INFINITE. */
    static Amoebary ofAll(int rows, int number) {
        Amoebary x = new Amoebary();
        x.matrix(0, rows);
        for (int i = 0; i < rows * rows; i++) {
            x.entry(0, i / rows, i % rows, number);
        }
        return x;
    }

    /** The matrix 0 has the same step from each row to the next one, from the last to the first. */
    private static Amoebary ring(int rows, int step) {
        Amoebary x = new Amoebary();
        x.matrix(0, rows);
        for (int i = 0; i < rows; i++) {
            x.entry(0, i, (i + 1) % rows, step);
        }
        return x;
    }

    /** The matrix 0 has one row and one entry, however far from 0. */
    private static Amoebary farOne(int number) {
        Amoebary x = of(1, 0);
        Bound.raiseAll(x, 0, 1, 3, number);
        return x;
    }

    // ---- promise 10: matrix

    /** "matrix: 0 to 3"; "IndexOutOfBoundsException if there is no such matrix". */
    static void promise10Matrix() {
        Bound.index(3, "matrix", Bound::filled, (x, wrong) -> x.matrix(wrong, 2));
    }

    /** "rows: 1 to 5"; "IllegalArgumentException if rows is out of range". */
    static void promise10Rows() {
        Bound.argument(1, 5, "rows", Bound::filled, (x, wrong) -> x.matrix(0, wrong));
    }

    /** "If several apply, the one that is named first in the throws clause is thrown." */
    static void promise10FirstNamed() {
        Bound.noSuch("no such matrix", Bound::filled, x -> x.matrix(4, 0));
        Bound.noSuch("no such matrix", Bound::filled, x -> x.matrix(-1, 6));
    }

    /** "Returns how many it had": fewer, as many or more than it gets. */
    static void promise10HowManyItHad() {
        Amoebary x = new Amoebary();
        int had = 1;
        for (int rows : new int[] {5, 5, 1, 1, 4, 2, 3}) {
            Check.due("to " + rows, x.matrix(2, rows), had);
            had = rows;
        }
        Check.due("another one", x.matrix(1, 2), 1);
    }

    /** "All INFINITE", also those that were of it before, and were not in between. */
    static void promise10AllInfinite() {
        Amoebary x = ofAll(5, 7);
        x.matrix(0, 5);
        for (int i = 0; i < 25; i++) {
            Check.due("entry " + i, x.at(0, i / 5, i % 5), INF);
        }
        x = ofAll(5, 7);
        x.matrix(0, 1);
        MatrixTest.dueMatrix("fewer", x, 0, 1, INF);
        x.matrix(0, 2);
        MatrixTest.dueMatrix("more again", x, 0, 2, INF, INF, INF, INF);
    }

    /** A matrix that was made of one with fewer rows, and gets more then, has nothing left. */
    static void promise10NothingIsLeft() {
        Amoebary x = ofAll(5, 7);
        MatrixTest.put(x, 1, 1, 3);
        x.multiply(1, 1, 0);
        Check.due("of one row", x.at(0, 0, 0), 6);
        Check.due("it had", x.matrix(0, 2), 1);
        MatrixTest.dueMatrix("more again", x, 0, 2, INF, INF, INF, INF);
    }

    // ---- promise 11: entry

    /** "IndexOutOfBoundsException if there is no such matrix". */
    static void promise11Matrix() {
        Bound.index(3, "entry of", Bound::filled, (x, wrong) -> x.entry(wrong, 0, 0, 1));
    }

    /** "IndexOutOfBoundsException if there is no such ... row": by how many there are. */
    static void promise11Row() {
        Bound.index(0, "entry, of one row,", Amoebary::new, (x, wrong) -> x.entry(3, wrong, 0, 1));
        Bound.index(1, "entry, of two rows,", Bound::filled, (x, wrong) -> x.entry(0, wrong, 0, 1));
        Bound.index(4, "entry, of five rows,", Bound::filled, (x, wrong) -> x.entry(3, wrong, 4, 1));
    }

    /** "IndexOutOfBoundsException if there is no such ... column": as many as rows. */
    static void promise11Column() {
        Bound.index(0, "entry, of one row,", Amoebary::new, (x, wrong) -> x.entry(3, 0, wrong, 1));
        Bound.index(1, "entry, of two rows,", Bound::filled, (x, wrong) -> x.entry(0, 1, wrong, 1));
        Bound.index(4, "entry, of five rows,", Bound::filled, (x, wrong) -> x.entry(3, 0, wrong, 1));
    }

    /** "number: -999 to 999, or INFINITE"; "IllegalArgumentException if number is out of range". */
    static void promise11Number() {
        Bound.number("entry", Bound::filled, (x, wrong) -> x.entry(1, 2, 2, wrong));
    }

    /** "If several apply, the one that is named first in the throws clause is thrown." */
    static void promise11FirstNamed() {
        Bound.noSuch("no matrix", Bound::filled, x -> x.entry(4, 0, 0, 1000));
        Bound.noSuch("no row", Bound::filled, x -> x.entry(0, 2, 0, 1000));
        Bound.noSuch("no column", Bound::filled, x -> x.entry(0, 0, 2, -1000));
    }

    /** "Returns the one before", INFINITE or one that no caller may give too. */
    static void promise11TheOneBefore() {
        Amoebary x = farOne(99999);
        Check.due("99999", x.entry(0, 0, 0, INF), 99999);
        Check.due("INFINITE", x.entry(0, 0, 0, -999), INF);
        Check.due("-999", x.entry(0, 0, 0, 999), -999);
        Check.due("-99999", farOne(-99999).entry(0, 0, 0, 0), -99999);
    }

    // ---- promise 12: at

    /** "IndexOutOfBoundsException if there is no such matrix". */
    static void promise12Matrix() {
        Bound.index(3, "at of", Bound::filled, (x, wrong) -> x.at(wrong, 0, 0));
    }

    /** "IndexOutOfBoundsException if there is no such ... row": by how many there are. */
    static void promise12Row() {
        Bound.index(0, "at, of one row,", Amoebary::new, (x, wrong) -> x.at(3, wrong, 0));
        Bound.index(1, "at, of two rows,", Bound::filled, (x, wrong) -> x.at(0, wrong, 0));
        Bound.index(4, "at, of five rows,", Bound::filled, (x, wrong) -> x.at(3, wrong, 4));
    }

    /** "IndexOutOfBoundsException if there is no such ... column": as many as rows. */
    static void promise12Column() {
        Bound.index(0, "at, of one row,", Amoebary::new, (x, wrong) -> x.at(3, 0, wrong));
        Bound.index(1, "at, of two rows,", Bound::filled, (x, wrong) -> x.at(0, 1, wrong));
        Bound.index(4, "at, of five rows,", Bound::filled, (x, wrong) -> x.at(3, 0, wrong));
    }

    /** "Returns the entry", INFINITE or one that no caller may give too. */
    static void promise12TheEntry() {
        Check.due("INFINITE", new Amoebary().at(3, 0, 0), INF);
        Check.due("99999", farOne(99999).at(0, 0, 0), 99999);
        Check.due("-99999", farOne(-99999).at(0, 0, 0), -99999);
    }

    // ---- promise 13: part

    /** "vector: 0 to 3"; "IndexOutOfBoundsException if there is no such vector". */
    static void promise13Vector() {
        Bound.index(3, "part of", Bound::filled, (x, wrong) -> x.part(wrong, 0, 1));
    }

    /** "place: 0 to 4"; "IndexOutOfBoundsException if there is no such ... part". */
    static void promise13Place() {
        Bound.index(4, "part at", Amoebary::new, (x, wrong) -> x.part(3, wrong, 1));
    }

    /** "number: -999 to 999, or INFINITE"; "IllegalArgumentException if number is out of range". */
    static void promise13Number() {
        Bound.number("part", Bound::filled, (x, wrong) -> x.part(1, 4, wrong));
    }

    /** "If several apply, the one that is named first in the throws clause is thrown." */
    static void promise13FirstNamed() {
        Bound.noSuch("no vector", Bound::filled, x -> x.part(-1, 0, 1000));
        Bound.noSuch("no part", Bound::filled, x -> x.part(0, 5, -1000));
    }

    /** "Returns the one before", INFINITE or one that no caller may give too. */
    static void promise13TheOneBefore() {
        Amoebary x = farOne(-99999);
        x.solve(0, 0, 2);
        Check.due("99999", x.part(2, 0, INF), 99999);
        Check.due("INFINITE", x.part(2, 0, -999), INF);
        Check.due("-999", x.part(2, 0, 999), -999);
    }

    // ---- promise 14: partAt

    /** "vector: 0 to 3"; "IndexOutOfBoundsException if there is no such vector". */
    static void promise14Vector() {
        Bound.index(3, "partAt of", Bound::filled, (x, wrong) -> x.partAt(wrong, 0));
    }

    /** "place: 0 to 4"; "IndexOutOfBoundsException if there is no such ... part". */
    static void promise14Place() {
        Bound.index(4, "partAt at", Bound::filled, (x, wrong) -> x.partAt(3, wrong));
    }

    /** "Returns the part", INFINITE or one that no caller may give too. */
    static void promise14ThePart() {
        Amoebary x = farOne(99999);
        x.part(3, 4, INF);
        Check.due("INFINITE", x.partAt(3, 4), INF);
        x.solve(0, 0, 2);
        Check.due("-99999", x.partAt(2, 0), -99999);
    }

    // ---- promise 15: multiply

    /** "matrix: 0 to 3"; "IndexOutOfBoundsException if there is no such matrix, of all". */
    static void promise15Matrix() {
        Bound.index(3, "multiply", Amoebary::new, (x, wrong) -> x.multiply(wrong, 1, 2));
    }

    /** "other: 0 to 3"; "IndexOutOfBoundsException if there is no such matrix, of all". */
    static void promise15Other() {
        Bound.index(3, "multiply by", Amoebary::new, (x, wrong) -> x.multiply(1, wrong, 2));
    }

    /** "to: 0 to 3"; "IndexOutOfBoundsException if there is no such matrix, of all". */
    static void promise15To() {
        Bound.index(3, "multiply to", Bound::filled, (x, wrong) -> x.multiply(1, 1, wrong));
    }

    /** "If several apply, the one that is named first in the throws clause is thrown." */
    static void promise15FirstNamed() {
        Bound.noSuch("no such to, and other rows", Bound::filled, x -> x.multiply(0, 1, 4));
        Bound.noSuch("no such to, and too far", () -> farOne(99999), x -> x.multiply(0, 0, -1));
    }

    /** "IllegalStateException if both have not as many rows". */
    static void promise15Rows() {
        for (int p = 0; p < 4; p++) {
            for (int q = 0; q < 4; q++) {
                int one = p;
                int other = q;
                if (p == q) {
                    Check.due("as many", Bound.filled().multiply(p, q, 0), (p + 2) * (p + 2));
                } else {
                    Bound.badState("other rows", Bound::filled, x -> x.multiply(one, other, one));
                    Bound.badState("other rows", Bound::filled, x -> x.multiply(one, other, other));
                }
            }
        }
    }

    /** "An entry would be below -99999 or above 99999". */
    static void promise15Numbers() {
        for (int sign = -1; sign <= 1; sign += 2) {
            int one = sign;
            Amoebary x = farOne(99998 * sign);
            MatrixTest.put(x, 1, 1, sign);
            Check.due("to the limit", x.multiply(0, 1, 0), 1);
            Check.due("at the limit", x.at(0, 0, 0), 99999 * sign);
            Bound.badState("beyond", () -> beside(farOne(99999 * one), one), y -> y.multiply(0, 1, 0));
            Bound.badState("beyond", () -> beside(farOne(99999 * one), one), y -> y.multiply(1, 0, 2));
            Bound.badState("far beyond", () -> farOne(99999 * one), y -> y.multiply(0, 0, 1));
            Check.due("from the limit", beside(farOne(99999 * sign), -sign).multiply(0, 1, 0), 1);
        }
    }

    /** The matrix 1 has one row too, and one entry. */
    private static Amoebary beside(Amoebary x, int entry) {
        MatrixTest.put(x, 1, 1, entry);
        return x;
    }

    /** The entry is the least: that another sum goes beyond does not matter, but the last entry does. */
    static void promise15TheLeastMatters() {
        Amoebary x = of(2, 0, 0, 0, 0);
        Bound.raiseColumn(x, 0, 2, 3, 99999, 1);
        MatrixTest.put(x, 1, 2, 5, 6, 7, 8);
        Check.due("multiply(0, 1, 2)", x.multiply(0, 1, 2), 4);
        MatrixTest.dueMatrix("multiply(0, 1, 2)", x, 2, 2, 5, 6, 5, 6);
        Bound.badState("the last entry", () -> {
            Amoebary y = of(2, INF, INF, INF, 1);
            Bound.raiseColumn(y, 0, 2, 3, 99998, 1);
            MatrixTest.put(y, 1, 2, 0, 0, 0, 1);
            return y;
        }, y -> y.multiply(1, 0, 1));
    }

    /** "How many numbers it has": none to 25; "with it, whatever is added, it stays". */
    static void promise15NoneTo25Numbers() {
        Amoebary x = ofAll(5, 1);
        Check.due("of 25", x.multiply(0, 0, 1), 25);
        x.matrix(2, 5);
        Check.due("of 25 and none", x.multiply(0, 2, 3), 0);
        Check.due("of none and 25", x.multiply(2, 0, 0), 0);
        Check.due("INFINITE", x.at(0, 4, 4), INF);
        x.entry(2, 4, 4, 1);
        Check.due("of 25 and one", x.multiply(1, 2, 1), 5);
        Check.due("of one row", new Amoebary().multiply(0, 1, 2), 0);
    }

    /** "Each may be the same as another one"; it "goes by it as it was ahead of the call". */
    static void promise15InItsPlace() {
        Amoebary x = of(2, 1, 2, 3, 5);
        Check.due("multiply(0, 0, 0)", x.multiply(0, 0, 0), 4);
        MatrixTest.dueMatrix("multiply(0, 0, 0)", x, 0, 2, 2, 3, 4, 5);
        MatrixTest.put(x, 1, 2, INF, 0, 0, INF);
        Check.due("multiply(0, 1, 0)", x.multiply(0, 1, 0), 4);
        MatrixTest.dueMatrix("multiply(0, 1, 0)", x, 0, 2, 3, 2, 5, 4);
        Check.due("multiply(1, 0, 0)", x.multiply(1, 0, 0), 4);
        MatrixTest.dueMatrix("multiply(1, 0, 0)", x, 0, 2, 5, 4, 3, 2);
    }

    /** It has as many rows as both, whether it had fewer or more. */
    static void promise15RowsOfTheProduct() {
        Amoebary x = Bound.filled();
        x.multiply(0, 0, 3);
        Check.due("it had five", x.matrix(3, 1), 2);
        x = Bound.filled();
        x.multiply(3, 3, 0);
        Check.due("it had two", x.matrix(0, 1), 5);
    }

    // ---- promise 16: star

    /** "matrix: 0 to 3"; "IndexOutOfBoundsException if there is no such matrix, of either". */
    static void promise16Matrix() {
        Bound.index(3, "star", Bound::filled, (x, wrong) -> x.star(wrong, 1));
    }

    /** "to: 0 to 3"; "IndexOutOfBoundsException if there is no such matrix, of either". */
    static void promise16To() {
        Bound.index(3, "star to", Bound::filled, (x, wrong) -> x.star(1, wrong));
    }

    /** "If several apply, the one that is named first in the throws clause is thrown." */
    static void promise16FirstNamed() {
        Bound.noSuch("no such to, and none", () -> of(1, -1), x -> x.star(0, 4));
        Bound.noSuch("no such to, and too far", () -> farWay(50000, 50000), x -> x.star(0, -1));
    }

    /** "A way without steps has 0, from a row to itself". */
    static void promise16WithoutSteps() {
        Amoebary x = new Amoebary();
        Check.due("of one row", x.star(0, 1), 1);
        MatrixTest.dueMatrix("of one row", x, 1, 1, 0);
        x.matrix(0, 5);
        Check.due("of five rows", x.star(0, 0), 5);
        MatrixTest.dueMatrix("of five rows", x, 0, 5, 0, INF, INF, INF, INF, INF, 0, INF, INF, INF,
                INF, INF, 0, INF, INF, INF, INF, INF, 0, INF, INF, INF, INF, INF, 0);
        x = of(1, 999);
        Check.due("a step above 0", x.star(0, 0), 1);
        MatrixTest.dueMatrix("a step above 0", x, 0, 1, 0);
    }

    /** "If no way from a row to itself has a sum below 0": 0 is not below it, -1 is. */
    static void promise16BackBelow0() {
        for (int r = 1; r <= 5; r++) {
            int rows = r;
            Amoebary x = ring(rows, 1);
            x.entry(0, rows - 1, 0, 1 - rows);
            Check.due("back at 0, of " + rows, x.star(0, 1), rows * rows);
            Bound.badState("back at -1, of " + rows, () -> {
                Amoebary y = ring(rows, 1);
                y.entry(0, rows - 1, 0, -rows);
                return y;
            }, y -> y.star(0, 0));
        }
        Bound.badState("at the last row alone", () -> of(2, INF, INF, INF, -1), x -> x.star(0, 1));
    }

    /** Ways of up to four steps, each over all rows, are of the least ones. */
    static void promise16LongestWays() {
        Amoebary x = ring(5, 0);
        x.entry(0, 4, 0, 1);
        Check.due("a ring", x.star(0, 1), 25);
        Check.due("from the first to the last", x.at(1, 0, 4), 0);
        Check.due("from the last to the one before", x.at(1, 4, 3), 1);
        x.entry(0, 2, 3, INF);
        Check.due("an open one", x.star(0, 0), 15);
        Check.due("no way", x.at(0, 0, 4), INF);
        Check.due("a way", x.at(0, 3, 2), 1);
    }

    /** There are steps from the row 0 to 1 and from 1 to 2, however far from 0. */
    private static Amoebary farWay(int step, int next) {
        Amoebary x = of(3, INF, 0, INF, INF, INF, 0, INF, INF, INF);
        Bound.raiseColumn(x, 0, 3, 3, step, 1);
        Bound.raiseColumn(x, 0, 3, 3, next, 2);
        return x;
    }

    /** "An entry would be below -99999 or above 99999". */
    static void promise16Numbers() {
        for (int sign = -1; sign <= 1; sign += 2) {
            int one = sign;
            Amoebary x = farWay(50000 * sign, 49999 * sign);
            Check.due("to the limit", x.star(0, 0), 6);
            Check.due("at the limit", x.at(0, 0, 2), 99999 * sign);
            Bound.badState("beyond", () -> farWay(50000 * one, 50000 * one), y -> y.star(0, 0));
            Bound.badState("far beyond", () -> farWay(99999 * one, 99999 * one), y -> y.star(0, 1));
        }
        Amoebary x = farWay(99999, 99999);
        x.entry(0, 0, 2, 999);
        Check.due("a shorter way", x.star(0, 1), 6);
        Check.due("a shorter way", x.at(1, 0, 2), 999);
    }

    /** "Or of itself"; "goes by it as it was ahead of the call, also if it is put in its place". */
    static void promise16InItsPlace() {
        Amoebary x = of(3, 5, 2, INF, INF, INF, -1, 1, INF, INF);
        Check.due("star(0, 0)", x.star(0, 0), 9);
        MatrixTest.dueMatrix("star(0, 0)", x, 0, 3, 0, 2, 1, 0, 0, -1, 1, 3, 0);
        Check.due("of itself again", x.star(0, 0), 9);
        MatrixTest.dueMatrix("of itself again", x, 0, 3, 0, 2, 1, 0, 0, -1, 1, 3, 0);
    }

    /** It has as many rows as the one, whether it had fewer or more. */
    static void promise16RowsOfTheStar() {
        Amoebary x = Bound.filled();
        x.star(0, 3);
        Check.due("it had five", x.matrix(3, 1), 2);
        x = Bound.filled();
        x.star(3, 0);
        Check.due("it had two", x.matrix(0, 1), 5);
    }

    // ---- promise 17: mean

    /** "matrix: 0 to 3"; "IndexOutOfBoundsException if there is no such matrix". */
    static void promise17Matrix() {
        Bound.index(3, "mean of", Bound::filled, (x, wrong) -> x.mean(wrong, 0));
    }

    /** "what: 0 ... 1"; "IllegalArgumentException if what is out of range". */
    static void promise17What() {
        Bound.argument(0, 1, "mean", Bound::filled, (x, wrong) -> x.mean(3, wrong));
        Bound.argument(0, 1, "mean without a cycle", Amoebary::new, (x, wrong) -> x.mean(0, wrong));
    }

    /** "If several apply, the one that is named first in the throws clause is thrown." */
    static void promise17FirstNamed() {
        Bound.noSuch("mean", Bound::filled, x -> x.mean(4, 2));
    }

    /** "0 without a cycle", "NONE without a cycle". */
    static void promise17WithoutACycle() {
        MatrixTest.dueMean("of one row", new Amoebary(), 0, Amoebary.NONE);
        Amoebary x = ring(5, -7);
        x.entry(0, 4, 0, INF);
        MatrixTest.dueMean("a way to the last row", x, 0, Amoebary.NONE);
    }

    /** A cycle has one step at the least, and as many as rows at the most. */
    static void promise17Steps() {
        MatrixTest.dueMean("of one row", of(1, -3), -3, 1);
        for (int rows = 2; rows <= 5; rows++) {
            Amoebary x = ring(rows, 1);
            x.entry(0, rows - 1, 0, 2);
            MatrixTest.dueMean("of " + rows, x, rows + 1, rows);
            x.entry(0, rows - 1, rows - 1, 2);
            MatrixTest.dueMean("of " + rows + ", and one that is more", x, rows + 1, rows);
            x.entry(0, rows - 1, rows - 1, 1);
            MatrixTest.dueMean("of " + rows + ", and one that is less", x, 1, 1);
        }
    }

    /** "A fraction that cannot be made shorter": 0 has 1 below the line. */
    static void promise17CannotBeMadeShorter() {
        Amoebary x = ring(4, 0);
        MatrixTest.dueMean("0", x, 0, 1);
        x.entry(0, 3, 0, 2);
        MatrixTest.dueMean("2 of 4", x, 1, 2);
        x.entry(0, 3, 0, -6);
        MatrixTest.dueMean("-6 of 4", x, -3, 2);
        x.entry(0, 3, 0, 8);
        MatrixTest.dueMean("8 of 4", x, 2, 1);
    }

    /** Ties of cycles with other steps are one mean. */
    static void promise17Ties() {
        MatrixTest.dueMean("one and two steps", of(2, 3, 2, 4, INF), 3, 1);
        MatrixTest.dueMean("all", ofAll(5, -999), -999, 1);
        MatrixTest.dueMean("two steps, 1 less", of(2, 3, 2, 3, INF), 5, 2);
        MatrixTest.dueMean("two steps, 1 more", of(2, 3, 2, 5, INF), 3, 1);
    }

    /** The farthest means that there are, of steps that no caller may give. */
    static void promise17Farthest() {
        for (int sign = -1; sign <= 1; sign += 2) {
            MatrixTest.dueMean("of one row", farOne(99999 * sign), 99999 * sign, 1);
            Amoebary x = ring(5, 0);
            x.entry(0, 4, 0, -sign);
            Bound.raiseAll(x, 0, 5, 3, 99999 * sign);
            MatrixTest.dueMean("of five rows", x, 499994 * sign, 5);
        }
    }

    // ---- promise 18: determinant

    /** "matrix: 0 to 3"; "IndexOutOfBoundsException if there is no such matrix". */
    static void promise18Matrix() {
        Bound.index(3, "determinant of", Bound::filled, Amoebary::determinant);
    }

    /** "INFINITE if no choice has numbers alone". */
    static void promise18NoChoice() {
        Check.due("of one row", new Amoebary().determinant(0), INF);
        Check.due("a row", of(2, 1, 1, INF, INF).determinant(0), INF);
        Check.due("a column", of(2, 1, INF, 1, INF).determinant(0), INF);
        Amoebary x = ofAll(5, 1);
        for (int i = 0; i < 9; i++) {
            x.entry(0, 2 + i / 3, 2 + i % 3, INF);
        }
        Check.due("three rows with numbers in two columns", x.determinant(0), INF);
        x.entry(0, 4, 4, 1);
        Check.due("one of them in another one too", x.determinant(0), 5);
    }

    /** One row, or five rows with one choice. */
    static void promise18OneChoice() {
        Check.due("of one row", of(1, -999).determinant(0), -999);
        Check.due("of five rows", ring(5, 999).determinant(0), 4995);
    }

    /** The farthest ones that there are, of entries that no caller may give. */
    static void promise18Farthest() {
        for (int sign = -1; sign <= 1; sign += 2) {
            Amoebary x = ring(5, 0);
            Bound.raiseAll(x, 0, 5, 3, 99999 * sign);
            Check.due("of five rows", x.determinant(0), 499995 * sign);
        }
    }

    // ---- promise 19: ways

    /** "matrix: 0 to 3"; "IndexOutOfBoundsException if there is no such matrix". */
    static void promise19Matrix() {
        Bound.index(3, "ways of", Bound::filled, Amoebary::ways);
    }

    /** "0 if it is INFINITE". */
    static void promise19NoChoice() {
        Check.due("of one row", new Amoebary().ways(0), 0);
        Check.due("a row", of(2, 1, 1, INF, INF).ways(0), 0);
        Amoebary x = ofAll(5, 1);
        for (int i = 0; i < 5; i++) {
            x.entry(0, i, 4, INF);
        }
        Check.due("a column", x.ways(0), 0);
    }

    /** "How many choices of such entries have it": one to all 120. */
    static void promise19OneTo120() {
        Check.due("of one row", of(1, -999).ways(0), 1);
        Check.due("of five rows", ring(5, 999).ways(0), 1);
        int all = 1;
        for (int rows = 1; rows <= 5; rows++) {
            all *= rows;
            Check.due("all of " + rows, ofAll(rows, -999).ways(0), all);
        }
    }

    /** One choice that is one less, or one more, than all the others. */
    static void promise19OneLessOneMore() {
        Check.due("one less", of(2, 0, 5, 4, 8).ways(0), 1);
        Check.due("as much", of(2, 0, 4, 4, 8).ways(0), 2);
        Check.due("one more", of(2, 0, 4, 3, 8).ways(0), 1);
    }
}
