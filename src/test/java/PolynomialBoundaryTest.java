/** The boundary cases of the promises 1 to 9; ahead of each test stands the sentence it is of. */
public final class PolynomialBoundaryTest {
    private static final int INF = Amoebary.INFINITE;

    public static void main(String[] args) {
        Bound.runAll(PolynomialBoundaryTest.class, 1, 9);
    }

    private static Amoebary of(int... coefficients) {
        return PolynomialTest.of(coefficients);
    }

    /** A polynomial 0 with one term, at any place. */
    private static Amoebary ofOne(int place, int number) {
        Amoebary x = new Amoebary();
        x.coefficient(0, place, number);
        return x;
    }

    /** The polynomials 0 and 1 have one term each, at these places. */
    private static Amoebary ofTwo(int place, int other) {
        Amoebary x = ofOne(place, 1);
        x.coefficient(1, other, 1);
        return x;
    }

    /** The polynomial 0 has one number at the place 0 and one at another place, however far from 0. */
    private static Amoebary farLine(int first, int place, int last) {
        Amoebary x = ofTwo(0, place);
        Bound.raise(x, 0, 2, first - 1);
        Bound.raise(x, 1, 2, last - 1);
        x.sum(0, 1, 0);
        return x;
    }

    // ---- promise 1: a new object

    /** Polynomials without terms. "All are INFINITE at first." */
    static void promise01PolynomialsWithoutTerms() {
        for (int p = 0; p < 4; p++) {
            Amoebary x = new Amoebary();
            Check.due("value", x.value(p, -999), INF);
            Check.due("roots", x.roots(p), 0);
            Check.due("sum", x.sum(p, p, p), 0);
            PolynomialTest.dueAll("coefficient", x, p);
        }
    }

    /** Matrices of one row. "At first one row, INFINITE." */
    static void promise01MatricesOfOneRow() {
        for (int m = 0; m < 4; m++) {
            int matrix = m;
            Check.due("at", new Amoebary().at(m, 0, 0), INF);
            Check.due("matrix", new Amoebary().matrix(m, 5), 1);
            Bound.noSuch("a row 1", Amoebary::new, x -> x.at(matrix, 1, 0));
            Bound.noSuch("a column 1", Amoebary::new, x -> x.at(matrix, 0, 1));
        }
    }

    /** Vectors of 0. */
    static void promise01VectorsOf0() {
        for (int i = 0; i < 20; i++) {
            Check.due("partAt " + i, new Amoebary().partAt(i / 5, i % 5), 0);
        }
    }

    /** A graph without edges. "Each vertex has chips, -99 to 99, 0 at first." */
    static void promise01GraphWithoutEdges() {
        ChipTest.dueGraph("new", new Amoebary(), 1, 0, 0, 1, 0, 1);
        ChipTest.dueChips("new", new Amoebary(), 0, 0, 0, 0, 0);
        for (int i = 0; i < 25; i++) {
            if (i / 5 != i % 5) {
                Check.due("edges " + i, new Amoebary().edges(i / 5, i % 5, 3), 0);
            }
        }
    }

    /** "INFINITE = 1000000", "NONE = -1". */
    static void promise01Constants() {
        Check.due("INFINITE", Amoebary.INFINITE, 1000000);
        Check.due("NONE", Amoebary.NONE, -1);
    }

    /** "An object is used for at most 512 calls after it has been made": the last one answers too. */
    static void promise01TheLastOf512Calls() {
        Amoebary x = new Amoebary();
        x.chips(0, 3);
        for (int call = 2; call < 512; call++) {
            x.coefficient(call % 4, call % 9, call);
        }
        Check.due("the call 512", x.rank(), 3);
    }

    // ---- promise 2: coefficient

    /** "poly: 0 to 3"; "IndexOutOfBoundsException if there is no such polynomial". */
    static void promise02Poly() {
        Bound.index(3, "coefficient of", Bound::filled, (x, wrong) -> x.coefficient(wrong, 0, 1));
    }

    /** "place: 0 to 8"; "IndexOutOfBoundsException if there is no such ... coefficient". */
    static void promise02Place() {
        Bound.index(8, "coefficient at", Bound::filled, (x, wrong) -> x.coefficient(3, wrong, 1));
    }

    /** "number: -999 to 999, or INFINITE"; "IllegalArgumentException if number is out of range". */
    static void promise02Number() {
        Bound.number("coefficient", Bound::filled, (x, wrong) -> x.coefficient(1, 8, wrong));
    }

    /** "If several apply, the one that is named first in the throws clause is thrown." */
    static void promise02FirstNamed() {
        Bound.noSuch("no polynomial", Bound::filled, x -> x.coefficient(4, 0, 1000));
        Bound.noSuch("no coefficient", Bound::filled, x -> x.coefficient(0, 9, -1000));
    }

    /** "Returns the one before", INFINITE or one that no caller may give too. */
    static void promise02TheOneBefore() {
        Amoebary x = ofOne(8, -999);
        Check.due("a number", x.coefficient(0, 8, INF), -999);
        Check.due("INFINITE", x.coefficient(0, 8, 999), INF);
        Bound.raise(x, 0, 1, 9000);
        Check.due("9999", x.coefficient(0, 8, 999), 9999);
        Bound.raise(x, 0, 1, -9999 - 999);
        Check.due("-9999", x.coefficient(0, 8, INF), -9999);
        Check.due("no term is left", x.value(0, 0), INF);
    }

    // ---- promise 3: value

    /** "poly: 0 to 3"; "IndexOutOfBoundsException if there is no such polynomial". */
    static void promise03Poly() {
        Bound.index(3, "value of", Bound::filled, (x, wrong) -> x.value(wrong, 0));
    }

    /** "x: -999 to 999"; "IllegalArgumentException if x is out of range"; INFINITE is, too. */
    static void promise03X() {
        Bound.argument(-999, 999, "value at", Bound::filled, (x, wrong) -> x.value(0, wrong));
        Bound.badArgument("value at INFINITE", Bound::filled, x -> x.value(0, INF));
        Bound.badArgument("value without terms", Amoebary::new, x -> x.value(0, 1000));
    }

    /** "If several apply, the one that is named first in the throws clause is thrown." */
    static void promise03FirstNamed() {
        Bound.noSuch("value", Bound::filled, x -> x.value(-1, 1000));
    }

    /** "INFINITE without terms". */
    static void promise03WithoutTerms() {
        Amoebary x = new Amoebary();
        for (int at : new int[] {-999, 0, 999}) {
            Check.due("value(0, " + at + ")", x.value(0, at), INF);
        }
        x.coefficient(0, 8, 1);
        x.coefficient(0, 8, INF);
        Check.due("without terms again", x.value(0, -999), INF);
    }

    /** The least and the greatest value that there is, of one term. */
    static void promise03FarthestValues() {
        Amoebary x = ofOne(8, 999);
        Bound.raise(x, 0, 1, 9000);
        Check.due("the greatest", x.value(0, 999), 9999 + 8 * 999);
        Check.due("back", x.value(0, -999), 9999 - 8 * 999);
        x = ofOne(8, -999);
        Bound.raise(x, 0, 1, -9000);
        Check.due("the least", x.value(0, -999), -9999 - 8 * 999);
    }

    /** "The least, over all terms": the first and the last place are of them. */
    static void promise03FirstAndLastPlace() {
        Amoebary x = of(0, INF, INF, INF, INF, INF, INF, INF, 0);
        Check.due("at -1", x.value(0, -1), -8);
        Check.due("at 0", x.value(0, 0), 0);
        Check.due("at 1", x.value(0, 1), 0);
    }

    // ---- promise 4: roots

    /** "poly: 0 to 3"; "IndexOutOfBoundsException if there is no such polynomial". */
    static void promise04Poly() {
        Bound.index(3, "roots of", Bound::filled, Amoebary::roots);
    }

    /** "Between two corners ... is a root": without terms, and of one term, there is none. */
    static void promise04NoneAndOneTerm() {
        Check.due("without terms", new Amoebary().roots(0), 0);
        for (int place = 0; place < 9; place++) {
            Check.due("of one term at " + place, ofOne(place, -999).roots(0), 0);
        }
    }

    /** All nine terms are corners. */
    static void promise04Most() {
        Check.due("roots", of(16, 9, 4, 1, 0, 1, 4, 9, 16).roots(0), 8);
    }

    /** "How many roots a polynomial has, each once", and terms that tie are no corners. */
    static void promise04EachOnce() {
        Check.due("of two terms", of(0, INF, INF, INF, INF, INF, INF, INF, 0).roots(0), 1);
        Check.due("of nine that tie", of(0, 0, 0, 0, 0, 0, 0, 0, 0).roots(0), 1);
    }

    // ---- promise 5: root

    /** "poly: 0 to 3"; "IndexOutOfBoundsException if there is no such polynomial". */
    static void promise05Poly() {
        Bound.index(3, "root of", Bound::filled, (x, wrong) -> x.root(wrong, 0, 0));
    }

    /** "root: its number"; "IndexOutOfBoundsException if there is no such ... root". */
    static void promise05Root() {
        Bound.index(7, "root", () -> of(16, 9, 4, 1, 0, 1, 4, 9, 16), (x, wrong) -> x.root(0, wrong, 0));
        Bound.index(0, "root", () -> of(5, INF, INF, 5), (x, wrong) -> x.root(0, wrong, 2));
        Bound.noSuch("without terms", Amoebary::new, x -> x.root(0, 0, 0));
        Bound.noSuch("of one term", () -> ofOne(4, 0), x -> x.root(0, 0, 2));
    }

    /** "what: 0 ... 1 ... 2"; "IllegalArgumentException if what is out of range". */
    static void promise05What() {
        Bound.argument(0, 2, "root", () -> of(5, INF, INF, 5), (x, wrong) -> x.root(0, 0, wrong));
    }

    /** "If several apply, the one that is named first in the throws clause is thrown." */
    static void promise05FirstNamed() {
        Bound.noSuch("no polynomial", Bound::filled, x -> x.root(4, 0, 3));
        Bound.noSuch("no root", Amoebary::new, x -> x.root(0, 0, -1));
        Bound.noSuch("no root", () -> of(5, INF, INF, 5), x -> x.root(0, 1, 3));
    }

    /** "Roots are numbered from 0 by rising ones." */
    static void promise05RisingOnes() {
        Amoebary x = of(16, 9, 4, 1, 0, 1, 4, 9, 16);
        for (int root = 0; root < 8; root++) {
            PolynomialTest.dueRoot(x, root, 2 * root - 7, 1, 1);
        }
    }

    /** "The fraction that cannot be made shorter": 0 has 1 below the line, and less than 0 is above. */
    static void promise05CannotBeMadeShorter() {
        PolynomialTest.dueRoot(of(7, INF, INF, INF, INF, INF, INF, INF, 7), 0, 0, 1, 8);
        PolynomialTest.dueRoot(of(0, INF, INF, INF, INF, INF, INF, INF, 6), 0, -3, 4, 8);
        PolynomialTest.dueRoot(of(8, INF, INF, INF, INF, INF, INF, INF, 0), 0, 1, 1, 8);
        PolynomialTest.dueRoot(of(0, INF, INF, INF, INF, INF, INF, 999), 0, -999, 7, 7);
        PolynomialTest.dueRoot(of(0, INF, INF, INF, INF, INF, 9), 0, -3, 2, 6);
    }

    /** The farthest roots that there are. */
    static void promise05FarthestRoots() {
        PolynomialTest.dueRoot(farLine(9999, 1, -9999), 0, 19998, 1, 1);
        PolynomialTest.dueRoot(farLine(-9999, 1, 9999), 0, -19998, 1, 1);
        PolynomialTest.dueRoot(farLine(9999, 8, -9999), 0, 9999, 4, 8);
        PolynomialTest.dueRoot(farLine(-9999, 8, 9999), 0, -9999, 4, 8);
    }

    // ---- promise 6: isSpare

    /** "poly: 0 to 3"; "IndexOutOfBoundsException if there is no such polynomial". */
    static void promise06Poly() {
        Bound.index(3, "isSpare of", Bound::filled, (x, wrong) -> x.isSpare(wrong, 0));
    }

    /** "place: 0 to 8"; "IndexOutOfBoundsException if there is no such ... coefficient". */
    static void promise06Place() {
        Bound.index(8, "isSpare at", Bound::filled, (x, wrong) -> x.isSpare(0, wrong));
        Bound.index(8, "isSpare without terms", Amoebary::new, (x, wrong) -> x.isSpare(0, wrong));
    }

    /** "False without such a term". */
    static void promise06WithoutSuchATerm() {
        Amoebary x = of(0, INF, INF, INF, 0, INF, INF, INF, 0);
        for (int place = 0; place < 9; place++) {
            Check.due("isSpare(0, " + place + ")", x.isSpare(0, place), place == 4);
            Check.due("isSpare(1, " + place + ")", x.isSpare(1, place), false);
        }
    }

    /** Without the only term, the first or the last one the value would not be the same. */
    static void promise06OnlyFirstAndLast() {
        for (int place = 0; place < 9; place++) {
            Check.due("the only one", ofOne(place, 999).isSpare(0, place), false);
        }
        Amoebary x = of(999, -999, -999, -999, -999, -999, -999, -999, 999);
        Check.due("the first", x.isSpare(0, 0), false);
        Check.due("the last", x.isSpare(0, 8), false);
    }

    /** "Also one that ties with others wherever it is least". */
    static void promise06Ties() {
        Amoebary x = of(4, INF, INF, INF, 0, INF, INF, INF, -4);
        Check.due("that ties", x.isSpare(0, 4), true);
        x.coefficient(0, 4, 1);
        Check.due("above", x.isSpare(0, 4), true);
        x.coefficient(0, 4, -1);
        Check.due("below", x.isSpare(0, 4), false);
        x = of(INF, 3, INF, INF, 0, INF, INF, -3);
        Check.due("that ties with others than the first and the last", x.isSpare(0, 4), true);
        x.coefficient(0, 4, -1);
        Check.due("below them", x.isSpare(0, 4), false);
    }

    /** "At every fraction x": it is least alone at -1/2, but nowhere at a whole number. */
    static void promise06EveryFraction() {
        Amoebary x = of(0, 0, 1);
        Check.due("isSpare(0, 1)", x.isSpare(0, 1), false);
        x = of(0, INF, INF, INF, INF, INF, INF, 7, 9);
        Check.due("least alone from -2 to -1", x.isSpare(0, 7), false);
        x.coefficient(0, 7, 8);
        Check.due("an eighth too much", x.isSpare(0, 7), true);
    }

    /** Ties of terms as far from 0 as there are. */
    static void promise06Farthest() {
        Amoebary x = farLine(9999, 8, -9999);
        x.coefficient(0, 4, 0);
        Check.due("that ties", x.isSpare(0, 4), true);
        x.coefficient(0, 4, -1);
        Check.due("below", x.isSpare(0, 4), false);
    }

    // ---- promise 7: areSame

    /** "poly: 0 to 3"; "IndexOutOfBoundsException if there is no such polynomial, of either". */
    static void promise07Poly() {
        Bound.index(3, "areSame of", Bound::filled, (x, wrong) -> x.areSame(wrong, 0));
    }

    /** "other: 0 to 3"; "IndexOutOfBoundsException if there is no such polynomial, of either". */
    static void promise07Other() {
        Bound.index(3, "areSame with", Bound::filled, (x, wrong) -> x.areSame(0, wrong));
        Bound.noSuch("areSame(4, 4)", Bound::filled, x -> x.areSame(4, 4));
    }

    /** Without terms both have the same corners: none. */
    static void promise07WithoutTerms() {
        Amoebary x = ofOne(0, 999);
        Check.due("none and none", x.areSame(1, 2), true);
        Check.due("none and one", x.areSame(1, 0), false);
        Check.due("one and none", x.areSame(0, 1), false);
    }

    /** One and the same polynomial. */
    static void promise07WithItself() {
        for (int p = 0; p < 4; p++) {
            Check.due("areSame(" + p + ", " + p + ")", Bound.filled().areSame(p, p), true);
        }
    }

    /** "If they have the same corners": terms that tie do not tell them apart. */
    static void promise07SpareTerms() {
        Amoebary x = of(0, 0, 0, 0, 0, 0, 0, 0, 0);
        PolynomialTest.put(x, 1, 0, INF, INF, INF, INF, INF, INF, INF, 0);
        Check.due("nine and two", x.areSame(0, 1), true);
        Check.due("two and nine", x.areSame(1, 0), true);
        x.coefficient(1, 4, -1);
        Check.due("two and three", x.areSame(0, 1), false);
    }

    /** "With the same coefficients": of the first and of the last corner too. */
    static void promise07SameCoefficients() {
        Amoebary x = of(0, INF, INF, INF, INF, INF, INF, INF, 0);
        PolynomialTest.put(x, 1, 1, INF, INF, INF, INF, INF, INF, INF, 0);
        PolynomialTest.put(x, 2, 0, INF, INF, INF, INF, INF, INF, INF, 1);
        Check.due("another first one", x.areSame(0, 1), false);
        Check.due("another last one", x.areSame(0, 2), false);
    }

    // ---- promise 8: sum

    /** "poly: 0 to 3"; "IndexOutOfBoundsException if there is no such polynomial, of all". */
    static void promise08Poly() {
        Bound.index(3, "sum of", Bound::filled, (x, wrong) -> x.sum(wrong, 1, 2));
    }

    /** "other: 0 to 3"; "IndexOutOfBoundsException if there is no such polynomial, of all". */
    static void promise08Other() {
        Bound.index(3, "sum with", Bound::filled, (x, wrong) -> x.sum(1, wrong, 2));
    }

    /** "to: 0 to 3"; "IndexOutOfBoundsException if there is no such polynomial, of all". */
    static void promise08To() {
        Bound.index(3, "sum to", Bound::filled, (x, wrong) -> x.sum(1, 2, wrong));
    }

    /** "Each may be the same as another one"; it "goes by it as it was ahead of the call". */
    static void promise08InItsPlace() {
        Amoebary x = of(6, INF, 0);
        PolynomialTest.put(x, 1, 5, 3, 1);
        Check.due("sum(0, 1, 1)", x.sum(0, 1, 1), 3);
        Check.due("sum(1, 1, 1)", x.sum(1, 1, 1), 3);
        Check.due("sum(1, 0, 0)", x.sum(1, 0, 0), 3);
        PolynomialTest.dueAll("the other", x, 1, 5, 3, 0);
        PolynomialTest.dueAll("the one", x, 0, 5, 3, 0);
    }

    /** "How many terms it has": none to nine. */
    static void promise08NoneToNineTerms() {
        Amoebary x = of(9, 9, 9, 9, 9, 9, 9, 9, 9);
        Check.due("of none", x.sum(1, 2, 3), 0);
        Check.due("of nine", x.sum(0, 0, 3), 9);
        Check.due("of nine and none", x.sum(2, 0, 1), 9);
        Check.due("of none, in the place of nine", x.sum(2, 2, 0), 0);
        PolynomialTest.dueAll("of none", x, 0);
        PolynomialTest.dueAll("of nine", x, 3, 9, 9, 9, 9, 9, 9, 9, 9, 9);
    }

    // ---- promise 9: product

    /** "poly: 0 to 3"; "IndexOutOfBoundsException if there is no such polynomial, of all". */
    static void promise09Poly() {
        Bound.index(3, "product of", () -> ofOne(0, 1), (x, wrong) -> x.product(wrong, 0, 0));
    }

    /** "other: 0 to 3"; "IndexOutOfBoundsException if there is no such polynomial, of all". */
    static void promise09Other() {
        Bound.index(3, "product with", () -> ofOne(0, 1), (x, wrong) -> x.product(0, wrong, 0));
    }

    /** "to: 0 to 3"; "IndexOutOfBoundsException if there is no such polynomial, of all". */
    static void promise09To() {
        Bound.index(3, "product to", () -> ofOne(0, 1), (x, wrong) -> x.product(0, 0, wrong));
    }

    /** "If several apply, the one that is named first in the throws clause is thrown." */
    static void promise09FirstNamed() {
        Bound.noSuch("no such to", Bound::filled, x -> x.product(3, 3, 4));
        Bound.badState("with such a to", Bound::filled, x -> x.product(3, 3, 3));
    }

    /** "With it, whatever is added, it stays": without terms nothing comes of it. */
    static void promise09WithoutTerms() {
        Amoebary x = Bound.filled();
        for (int i = 0; i < 9; i++) {
            x.coefficient(0, i, INF);
        }
        Check.due("none and nine", x.product(0, 3, 1), 0);
        PolynomialTest.dueAll("none and nine", x, 1);
        Check.due("nine and none", x.product(3, 0, 3), 0);
        PolynomialTest.dueAll("nine and none", x, 3);
    }

    /** "A coefficient above 8 would be a number": 8 is none above. */
    static void promise09Places() {
        for (int place = 0; place < 9; place++) {
            for (int other = 0; other < 9; other++) {
                int one = place;
                int two = other;
                if (place + other <= 8) {
                    Amoebary x = ofTwo(place, other);
                    Check.due("product", x.product(0, 1, 2), 1);
                    Check.due("coefficient", x.coefficient(2, place + other, INF), 2);
                } else {
                    Bound.badState(one + " and " + two, () -> ofTwo(one, two), x -> x.product(0, 1, 2));
                    Bound.badState(one + " and " + two, () -> ofTwo(one, two), x -> x.product(0, 1, 0));
                }
            }
        }
    }

    /** A constant as far from 0 as there is in the polynomial 0, the other one in 1. */
    private static Amoebary far(int number, int other) {
        Amoebary x = farLine(number, 1, 0);
        x.coefficient(0, 1, INF);
        PolynomialTest.put(x, 1, other);
        return x;
    }

    /** "A coefficient would be below -9999 or above 9999". */
    static void promise09Numbers() {
        for (int sign = -1; sign <= 1; sign += 2) {
            int one = sign;
            Amoebary x = far(9999 * sign, 0);
            Check.due("to the limit", x.product(0, 1, 0), 1);
            Check.due("at the limit", x.coefficient(0, 0, INF), 9999 * sign);
            Check.due("from the limit", far(9999 * sign, -sign).product(0, 1, 0), 1);
            Bound.badState("beyond", () -> far(9999 * one, one), y -> y.product(0, 1, 2));
            Bound.badState("beyond", () -> far(9999 * one, one), y -> y.product(1, 0, 0));
            Bound.badState("far beyond", () -> far(9999 * one, one), y -> y.product(0, 0, 1));
        }
    }

    /** The coefficient is the least: that another sum goes beyond does not matter, but below it does. */
    static void promise09TheLeastMatters() {
        Amoebary x = far(9999, 5);
        x.coefficient(0, 1, 0);
        x.coefficient(1, 1, 7);
        x.coefficient(1, 0, 0);
        Check.due("10006, but 0 is less", x.product(0, 1, 2), 3);
        PolynomialTest.dueAll("10006, but 0 is less", x, 2, 9999, 0, 7);
        Bound.badState("one of many", () -> {
            Amoebary y = far(-9999, 0);
            y.coefficient(1, 8, -1);
            return y;
        }, y -> y.product(0, 1, 1));
    }

    /** "Each may be the same as another one"; it "goes by it as it was ahead of the call". */
    static void promise09InItsPlace() {
        Amoebary x = of(1, 0, 5);
        Check.due("product(0, 0, 0)", x.product(0, 0, 0), 5);
        PolynomialTest.put(x, 1, INF, 2);
        Check.due("product(0, 1, 1)", x.product(0, 1, 1), 5);
        PolynomialTest.dueAll("product(0, 1, 1)", x, 1, INF, 4, 3, 2, 7, 12);
        PolynomialTest.dueAll("product(0, 0, 0)", x, 0, 2, 1, 0, 5, 10);
    }
}
