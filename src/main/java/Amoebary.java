import java.util.Arrays;

/**
 * A workshop where to add is to take the lesser, and to multiply is to add:
 * polynomials, matrices and vectors, and a graph on which chips are fired.
 *
 * <p>All rows that calls work on are made once, in the constructors; no call makes an object.
 */
public final class Amoebary {
    /** Greater than all numbers. */
    public static final int INFINITE = 1000000;
    /** There is none. */
    public static final int NONE = -1;

    /** How many polynomials, how many matrices and how many vectors there are. */
    private static final int HELD = 4;
    private static final int PLACES = 9;
    private static final int MOST_ROWS = 5;
    private static final int VERTICES = 5;

    /** No number given by a caller goes beyond this, above or below 0. */
    private static final int GIVEN_LIMIT = 999;
    private static final int COEFFICIENT_LIMIT = 9999;
    private static final int ENTRY_LIMIT = 99999;
    private static final int CHIPS_LIMIT = 99;
    private static final int MOST_EDGES = 3;
    private static final int MOST_RANKED_DEGREE = 8;

    /** Far more firings of sets than any chips need until they are reduced. */
    private static final int MANY_FIRINGS = 1000000;

    private final Polynomial[] polynomials = new Polynomial[HELD];
    private final Matrix[] matrices = new Matrix[HELD];
    private final int[][] vectors = new int[HELD][MOST_ROWS];
    private final Net net = new Net();

    /* What is made stands in these until it is sure that the call does not throw. */
    private final Polynomial polynomialDraft = new Polynomial();
    private final Matrix matrixDraft = new Matrix();
    private final Matrix longerDraft = new Matrix();
    private final int[] vectorDraft = new int[MOST_ROWS];
    private final Fraction fraction = new Fraction();
    private final Choices choices = new Choices();

    /** Polynomials without terms, matrices of one row, vectors of 0, a graph without edges. */
    public Amoebary() {
        for (int i = 0; i < HELD; i++) {
            polynomials[i] = new Polynomial();
            matrices[i] = new Matrix();
        }
    }

    // ---- polynomials.

    /** Sets a coefficient; returns the one before. */
    public int coefficient(int poly, int place, int number)
            throws IndexOutOfBoundsException, IllegalArgumentException {
        needHeld(poly);
        needIndex(place, PLACES);
        needGiven(number);
        int before = polynomials[poly].coefficients[place];
        polynomials[poly].coefficients[place] = number;
        return before;
    }

    /** Returns the value at x, INFINITE without terms. */
    public int value(int poly, int x) throws IndexOutOfBoundsException, IllegalArgumentException {
        needHeld(poly);
        needWithin(x, -GIVEN_LIMIT, GIVEN_LIMIT);
        return polynomials[poly].leastAt(x);
    }

    /** Returns how many roots a polynomial has, each once. */
    public int roots(int poly) throws IndexOutOfBoundsException {
        needHeld(poly);
        return polynomials[poly].countGaps();
    }

    /** Tells of a root: what is above the line, what is below it, how often it counts. */
    public int root(int poly, int root, int what)
            throws IndexOutOfBoundsException, IllegalArgumentException {
        needHeld(poly);
        Polynomial asked = polynomials[poly];
        needIndex(root, asked.countGaps());
        needWithin(what, 0, 2);
        // the roots fall where the places rise: the first root lies between the last two corners
        int upper = asked.cornerBelow(PLACES);
        for (int i = 0; i < root; i++) {
            upper = asked.cornerBelow(upper);
        }
        int lower = asked.cornerBelow(upper);
        if (lower < 0 || what == 2) {
            return upper - lower;
        }
        fraction.become(asked.coefficients[lower] - asked.coefficients[upper], upper - lower);
        return what == 0 ? fraction.above : fraction.below;
    }

    /** Tells whether a term is spare; false without such a term. */
    public boolean isSpare(int poly, int place) throws IndexOutOfBoundsException {
        needHeld(poly);
        needIndex(place, PLACES);
        return polynomials[poly].hasSpare(place);
    }

    /** Tells whether two polynomials are the same function. */
    public boolean areSame(int poly, int other) throws IndexOutOfBoundsException {
        needHeld(poly);
        needHeld(other);
        return polynomials[poly].hasCornersOf(polynomials[other]);
    }

    /** Makes a polynomial the sum of two; returns how many terms it has. */
    public int sum(int poly, int other, int to) throws IndexOutOfBoundsException {
        needHeld(poly);
        needHeld(other);
        needHeld(to);
        polynomialDraft.becomeLesser(polynomials[poly], polynomials[other]);
        polynomials[to].becomeCopy(polynomialDraft);
        return polynomials[to].countTerms();
    }

    /** Makes a polynomial the product of two; returns how many terms it has. */
    public int product(int poly, int other, int to)
            throws IndexOutOfBoundsException, IllegalStateException {
        needHeld(poly);
        needHeld(other);
        needHeld(to);
        if (!polynomials[poly].fitsWith(polynomials[other])) {
            throw new IllegalStateException("a coefficient above 8 would be a number");
        }
        polynomialDraft.becomeProduct(polynomials[poly], polynomials[other]);
        if (!polynomialDraft.isWithinLimit()) {
            throw new IllegalStateException("a coefficient would be out of range");
        }
        polynomials[to].becomeCopy(polynomialDraft);
        return polynomials[to].countTerms();
    }

    // ---- matrices.

    /** Makes a matrix of rows, all INFINITE; returns how many it had. */
    public int matrix(int matrix, int rows) throws IndexOutOfBoundsException, IllegalArgumentException {
        needHeld(matrix);
        needWithin(rows, 1, MOST_ROWS);
        int before = matrices[matrix].rows;
        matrices[matrix].becomeEmpty(rows);
        return before;
    }

    /** Sets an entry; returns the one before. */
    public int entry(int matrix, int row, int column, int number)
            throws IndexOutOfBoundsException, IllegalArgumentException {
        needEntry(matrix, row, column);
        needGiven(number);
        int before = matrices[matrix].entries[row][column];
        matrices[matrix].entries[row][column] = number;
        return before;
    }

    /** Returns an entry. */
    public int at(int matrix, int row, int column) throws IndexOutOfBoundsException {
        needEntry(matrix, row, column);
        return matrices[matrix].entries[row][column];
    }

    /** Sets a part of a vector; returns the one before. */
    public int part(int vector, int place, int number)
            throws IndexOutOfBoundsException, IllegalArgumentException {
        needHeld(vector);
        needIndex(place, MOST_ROWS);
        needGiven(number);
        int before = vectors[vector][place];
        vectors[vector][place] = number;
        return before;
    }

    /** Returns a part of a vector. */
    public int partAt(int vector, int place) throws IndexOutOfBoundsException {
        needHeld(vector);
        needIndex(place, MOST_ROWS);
        return vectors[vector][place];
    }

    /** Makes a matrix the product of two; returns how many numbers it has. */
    public int multiply(int matrix, int other, int to)
            throws IndexOutOfBoundsException, IllegalStateException {
        needHeld(matrix);
        needHeld(other);
        needHeld(to);
        if (matrices[matrix].rows != matrices[other].rows) {
            throw new IllegalStateException("both have not as many rows");
        }
        matrixDraft.becomeProduct(matrices[matrix], matrices[other]);
        return keepMatrixDraft(to);
    }

    /** Makes a matrix the star of one; returns how many numbers it has. */
    public int star(int matrix, int to) throws IndexOutOfBoundsException, IllegalStateException {
        needHeld(matrix);
        needHeld(to);
        matrixDraft.becomeCopy(matrices[matrix]);
        matrixDraft.closeWays();
        if (matrixDraft.comesBackBelowZero()) {
            throw new IllegalStateException("a way from a row to itself is below 0");
        }
        return keepMatrixDraft(to);
    }

    /** Tells of the least mean of the cycles: what is above the line, what is below it. */
    public int mean(int matrix, int what) throws IndexOutOfBoundsException, IllegalArgumentException {
        needHeld(matrix);
        needWithin(what, 0, 1);
        findLeastMean(matrices[matrix]);
        return what == 0 ? fraction.above : fraction.below;
    }

    /** Returns the determinant; INFINITE if no choice has numbers alone. */
    public int determinant(int matrix) throws IndexOutOfBoundsException {
        needHeld(matrix);
        return choices.leastSum(matrices[matrix]);
    }

    /** Returns how many choices have the determinant; 0 if it is INFINITE. */
    public int ways(int matrix) throws IndexOutOfBoundsException {
        needHeld(matrix);
        return choices.countLeast(matrices[matrix]);
    }

    /** Puts the solution of a matrix for a vector into a vector; returns whether it solves. */
    public boolean solve(int matrix, int vector, int to)
            throws IndexOutOfBoundsException, IllegalStateException {
        needHeld(matrix);
        needHeld(vector);
        needHeld(to);
        Matrix given = matrices[matrix];
        if (!hasNumbers(vectors[vector], given.rows)) {
            throw new IllegalStateException("a part that matters is INFINITE");
        }
        given.putSolution(vectors[vector], vectorDraft);
        needPartsWithinLimit(vectorDraft, given.rows);
        boolean solves = given.leadsTo(vectorDraft, vectors[vector]);
        System.arraycopy(vectorDraft, 0, vectors[to], 0, given.rows);
        return solves;
    }

    /** Puts what a vector is projected to into a vector; returns whether it is in the hull. */
    public boolean project(int matrix, int vector, int to)
            throws IndexOutOfBoundsException, IllegalStateException {
        needHeld(matrix);
        needHeld(vector);
        needHeld(to);
        Matrix given = matrices[matrix];
        if (!given.hasNumbersAlone() || !hasNumbers(vectors[vector], given.rows)) {
            throw new IllegalStateException("an entry or a part that matters is INFINITE");
        }
        given.putProjection(vectors[vector], vectorDraft);
        needPartsWithinLimit(vectorDraft, given.rows);
        boolean inHull = areAlike(vectorDraft, vectors[vector], given.rows);
        System.arraycopy(vectorDraft, 0, vectors[to], 0, given.rows);
        return inHull;
    }

    /** Returns 0 no distances, 1 distances of no tree, 2 of a tree. */
    public int tree(int matrix) throws IndexOutOfBoundsException {
        needHeld(matrix);
        if (!matrices[matrix].isOfDistances()) {
            return 0;
        }
        return matrices[matrix].isOfTree() ? 2 : 1;
    }

    // ---- chips.

    /** Sets how many edges there are between two vertices; returns how many there were. */
    public int edges(int vertex, int other, int edges)
            throws IndexOutOfBoundsException, IllegalArgumentException {
        needIndex(vertex, VERTICES);
        needIndex(other, VERTICES);
        if (vertex == other) {
            throw new IllegalArgumentException("both are one");
        }
        needWithin(edges, 0, MOST_EDGES);
        int before = net.between[vertex][other];
        net.between[vertex][other] = edges;
        net.between[other][vertex] = edges;
        return before;
    }

    /** Sets the chips of a vertex; returns the chips before. */
    public int chips(int vertex, int chips) throws IndexOutOfBoundsException, IllegalArgumentException {
        needIndex(vertex, VERTICES);
        needWithin(chips, -CHIPS_LIMIT, CHIPS_LIMIT);
        int before = net.chips[vertex];
        net.chips[vertex] = chips;
        return before;
    }

    /** Returns the chips of a vertex. */
    public int chipsAt(int vertex) throws IndexOutOfBoundsException {
        needIndex(vertex, VERTICES);
        return net.chips[vertex];
    }

    /** Fires a vertex; returns its chips then. */
    public int fire(int vertex) throws IndexOutOfBoundsException, IllegalStateException {
        needIndex(vertex, VERTICES);
        net.copyChips();
        net.fireSet(net.startPile(), 1 << vertex, 1);
        if (!net.isWithinLimit(net.startPile())) {
            throw new IllegalStateException("a vertex would have too few or too many chips");
        }
        System.arraycopy(net.startPile(), 0, net.chips, 0, VERTICES);
        return net.chips[vertex];
    }

    /** Returns the chips that a vertex would have, if the chips were reduced at one. */
    public int reduced(int at, int vertex) throws IndexOutOfBoundsException, IllegalStateException {
        needIndex(at, VERTICES);
        needIndex(vertex, VERTICES);
        if (!net.hasVertex(at) || !net.hasVertex(vertex)) {
            throw new IllegalStateException("a vertex is not of the graph");
        }
        needConnected();
        net.copyChips();
        net.spreadFrom(at);
        net.reduce(net.startPile());
        return net.startPile()[vertex];
    }

    /** Returns the rank of the chips. */
    public int rank() throws IllegalStateException {
        needConnected();
        net.copyChips();
        needRanked();
        return net.rankOfStart();
    }

    /** Returns the rank of the rest of the canonical ones. */
    public int restRank() throws IllegalStateException {
        needConnected();
        net.copyRest();
        needRanked();
        return net.rankOfStart();
    }

    /** Tells of the graph: vertices, edges, genus, whether connected, degree, spanning trees. */
    public int graph(int what) throws IllegalArgumentException {
        needWithin(what, 0, 5);
        switch (what) {
            case 0:
                return net.countVertices();
            case 1:
                return net.countEdges();
            case 2:
                return net.genus();
            case 3:
                return net.isConnected() ? 1 : 0;
            case 4:
                net.copyChips();
                return net.degree(net.startPile());
            default:
                return net.countSpanningTrees();
        }
    }

    // ---- what the calls share.

    private static void needIndex(int index, int count) {
        if (index < 0 || index >= count) {
            throw new IndexOutOfBoundsException("there is no such one");
        }
    }

    private static void needHeld(int number) {
        needIndex(number, HELD);
    }

    private void needEntry(int matrix, int row, int column) {
        needHeld(matrix);
        needIndex(row, matrices[matrix].rows);
        needIndex(column, matrices[matrix].rows);
    }

    private static void needWithin(int number, int least, int most) {
        if (number < least || number > most) {
            throw new IllegalArgumentException("an argument is out of range");
        }
    }

    private static void needGiven(int number) {
        if (number != INFINITE) {
            needWithin(number, -GIVEN_LIMIT, GIVEN_LIMIT);
        }
    }

    private static void needPartsWithinLimit(int[] parts, int count) {
        for (int i = 0; i < count; i++) {
            if (isBeyond(parts[i], ENTRY_LIMIT)) {
                throw new IllegalStateException("a part would be out of range");
            }
        }
    }

    private void needConnected() {
        if (!net.isConnected()) {
            throw new IllegalStateException("the graph is not connected");
        }
    }

    private void needRanked() {
        if (net.degree(net.startPile()) > MOST_RANKED_DEGREE) {
            throw new IllegalStateException("the degree is too high");
        }
    }

    private int keepMatrixDraft(int to) {
        if (!matrixDraft.isWithinLimit()) {
            throw new IllegalStateException("an entry would be out of range");
        }
        matrices[to].becomeCopy(matrixDraft);
        return matrices[to].countNumbers();
    }

    /**
     * Puts the least mean into the fraction. Any way from a row to itself falls apart into cycles,
     * one of which has no greater mean, so that the least of the ways of each length will do.
     */
    private void findLeastMean(Matrix single) {
        Matrix ways = matrixDraft;
        Matrix longer = longerDraft;
        fraction.becomeNone();
        ways.becomeCopy(single);
        for (int steps = 1; steps <= single.rows; steps++) {
            for (int row = 0; row < single.rows; row++) {
                if (ways.entries[row][row] != INFINITE) {
                    fraction.becomeLesser(ways.entries[row][row], steps);
                }
            }
            longer.becomeProduct(ways, single);
            Matrix shorter = ways;
            ways = longer;
            longer = shorter;
        }
    }

    private static int together(int one, int other) {
        return one == INFINITE || other == INFINITE ? INFINITE : one + other;
    }

    /** Whether it is a number, and goes beyond the limit above or below 0. */
    private static boolean isBeyond(int number, int limit) {
        return number != INFINITE && (number < -limit || number > limit);
    }

    private static boolean hasNumbers(int[] parts, int count) {
        for (int i = 0; i < count; i++) {
            if (parts[i] == INFINITE) {
                return false;
            }
        }
        return true;
    }

    private static boolean areAlike(int[] some, int[] others, int count) {
        for (int i = 0; i < count; i++) {
            if (some[i] != others[i]) {
                return false;
            }
        }
        return true;
    }

    /** Coefficients, INFINITE where there is no term. */
    private static final class Polynomial {
        private final int[] coefficients = new int[PLACES];

        Polynomial() {
            Arrays.fill(coefficients, INFINITE);
        }

        boolean hasTerm(int place) {
            return coefficients[place] != INFINITE;
        }

        int countTerms() {
            int count = 0;
            for (int i = 0; i < PLACES; i++) {
                if (hasTerm(i)) {
                    count++;
                }
            }
            return count;
        }

        int leastAt(int x) {
            int least = INFINITE;
            for (int i = 0; i < PLACES; i++) {
                if (hasTerm(i)) {
                    least = Math.min(least, coefficients[i] + i * x);
                }
            }
            return least;
        }

        /** A term is spare if it lies on or above the line between a term before and one behind. */
        boolean hasSpare(int place) {
            if (!hasTerm(place)) {
                return false;
            }
            for (int before = 0; before < place; before++) {
                for (int behind = place + 1; behind < PLACES; behind++) {
                    if (hasTerm(before) && hasTerm(behind) && isOnOrAbove(place, before, behind)) {
                        return true;
                    }
                }
            }
            return false;
        }

        private boolean isOnOrAbove(int place, int before, int behind) {
            int line = coefficients[before] * (behind - place) + coefficients[behind] * (place - before);
            return coefficients[place] * (behind - before) >= line;
        }

        boolean hasCorner(int place) {
            return hasTerm(place) && !hasSpare(place);
        }

        /** How many corners have one behind them. */
        int countGaps() {
            int corners = 0;
            for (int i = 0; i < PLACES; i++) {
                if (hasCorner(i)) {
                    corners++;
                }
            }
            return Math.max(0, corners - 1);
        }

        /** The last corner ahead of a place, or NONE. */
        int cornerBelow(int place) {
            for (int i = Math.min(place, PLACES) - 1; i >= 0; i--) {
                if (hasCorner(i)) {
                    return i;
                }
            }
            return NONE;
        }

        boolean hasCornersOf(Polynomial other) {
            for (int i = 0; i < PLACES; i++) {
                if (hasCorner(i) != other.hasCorner(i)) {
                    return false;
                }
                if (hasCorner(i) && coefficients[i] != other.coefficients[i]) {
                    return false;
                }
            }
            return true;
        }

        void becomeCopy(Polynomial other) {
            System.arraycopy(other.coefficients, 0, coefficients, 0, PLACES);
        }

        void becomeLesser(Polynomial one, Polynomial other) {
            for (int i = 0; i < PLACES; i++) {
                coefficients[i] = Math.min(one.coefficients[i], other.coefficients[i]);
            }
        }

        /** Whether the product with the other one has all its terms at places that there are. */
        boolean fitsWith(Polynomial other) {
            for (int i = 0; i < PLACES; i++) {
                for (int j = PLACES - i; j < PLACES; j++) {
                    if (hasTerm(i) && other.hasTerm(j)) {
                        return false;
                    }
                }
            }
            return true;
        }

        void becomeProduct(Polynomial one, Polynomial other) {
            for (int k = 0; k < PLACES; k++) {
                int least = INFINITE;
                for (int i = 0; i <= k; i++) {
                    least = Math.min(least, together(one.coefficients[i], other.coefficients[k - i]));
                }
                coefficients[k] = least;
            }
        }

        boolean isWithinLimit() {
            for (int i = 0; i < PLACES; i++) {
                if (isBeyond(coefficients[i], COEFFICIENT_LIMIT)) {
                    return false;
                }
            }
            return true;
        }
    }

    /** Rows of entries, as many columns as rows. */
    private static final class Matrix {
        private final int[][] entries = new int[MOST_ROWS][MOST_ROWS];
        private int rows;

        Matrix() {
            becomeEmpty(1);
        }

        void becomeEmpty(int count) {
            rows = count;
            for (int i = 0; i < MOST_ROWS; i++) {
                Arrays.fill(entries[i], INFINITE);
            }
        }

        void becomeCopy(Matrix other) {
            rows = other.rows;
            for (int i = 0; i < MOST_ROWS; i++) {
                System.arraycopy(other.entries[i], 0, entries[i], 0, MOST_ROWS);
            }
        }

        int countNumbers() {
            int count = 0;
            for (int i = 0; i < rows; i++) {
                for (int j = 0; j < rows; j++) {
                    if (entries[i][j] != INFINITE) {
                        count++;
                    }
                }
            }
            return count;
        }

        boolean hasNumbersAlone() {
            return countNumbers() == rows * rows;
        }

        boolean isWithinLimit() {
            for (int i = 0; i < rows; i++) {
                for (int j = 0; j < rows; j++) {
                    if (isBeyond(entries[i][j], ENTRY_LIMIT)) {
                        return false;
                    }
                }
            }
            return true;
        }

        /** Both have as many rows, and neither is this one. */
        void becomeProduct(Matrix one, Matrix other) {
            rows = one.rows;
            for (int i = 0; i < rows; i++) {
                for (int j = 0; j < rows; j++) {
                    int least = INFINITE;
                    for (int k = 0; k < rows; k++) {
                        least = Math.min(least, together(one.entries[i][k], other.entries[k][j]));
                    }
                    entries[i][j] = least;
                }
            }
        }

        /** Makes of steps the least ways; on a way back below 0 some row comes to itself below 0. */
        void closeWays() {
            for (int i = 0; i < rows; i++) {
                entries[i][i] = Math.min(0, entries[i][i]);
            }
            for (int k = 0; k < rows; k++) {
                for (int i = 0; i < rows; i++) {
                    for (int j = 0; j < rows; j++) {
                        int over = together(entries[i][k], entries[k][j]);
                        entries[i][j] = Math.min(entries[i][j], over);
                    }
                }
            }
        }

        boolean comesBackBelowZero() {
            for (int i = 0; i < rows; i++) {
                if (entries[i][i] < 0) {
                    return true;
                }
            }
            return false;
        }

        void putSolution(int[] vector, int[] solution) {
            for (int j = 0; j < rows; j++) {
                int greatest = INFINITE;
                for (int i = 0; i < rows; i++) {
                    if (entries[i][j] != INFINITE) {
                        int part = vector[i] - entries[i][j];
                        greatest = greatest == INFINITE ? part : Math.max(greatest, part);
                    }
                }
                solution[j] = greatest;
            }
        }

        /** Whether each row has, with the solution, the part of the vector as its least. */
        boolean leadsTo(int[] solution, int[] vector) {
            for (int i = 0; i < rows; i++) {
                int least = INFINITE;
                for (int j = 0; j < rows; j++) {
                    least = Math.min(least, together(entries[i][j], solution[j]));
                }
                if (least != vector[i]) {
                    return false;
                }
            }
            return true;
        }

        void putProjection(int[] vector, int[] projection) {
            for (int r = 0; r < rows; r++) {
                int shift = shiftOf(r, vector);
                for (int i = 0; i < rows; i++) {
                    int part = shift + entries[r][i];
                    projection[i] = r == 0 ? part : Math.min(projection[i], part);
                }
            }
        }

        private int shiftOf(int row, int[] vector) {
            int shift = vector[0] - entries[row][0];
            for (int i = 1; i < rows; i++) {
                shift = Math.max(shift, vector[i] - entries[row][i]);
            }
            return shift;
        }

        boolean isOfDistances() {
            if (!hasNumbersAlone()) {
                return false;
            }
            for (int i = 0; i < rows; i++) {
                for (int j = 0; j <= i; j++) {
                    if (entries[i][j] != entries[j][i] || i == j && entries[i][j] != 0) {
                        return false;
                    }
                }
            }
            return true;
        }

        /** The three sums stay the same three in any order of four rows: rising ones will do. */
        boolean isOfTree() {
            for (int i = 0; i < rows; i++) {
                for (int j = i; j < rows; j++) {
                    for (int k = j; k < rows; k++) {
                        for (int l = k; l < rows; l++) {
                            if (!isOfTreeAt(i, j, k, l)) {
                                return false;
                            }
                        }
                    }
                }
            }
            return true;
        }

        private boolean isOfTreeAt(int i, int j, int k, int l) {
            int one = entries[i][j] + entries[k][l];
            int two = entries[i][k] + entries[j][l];
            int three = entries[i][l] + entries[j][k];
            if (one > two) {
                return three == one;
            }
            return one == two ? three <= one : three == two;
        }
    }

    /** A fraction that cannot be made shorter, or none. */
    private static final class Fraction {
        private int above;
        private int below;

        void becomeNone() {
            above = 0;
            below = NONE;
        }

        /** What is below the line is above 0. */
        void become(int newAbove, int newBelow) {
            int divisor = 1;
            for (int i = 2; i <= newBelow; i++) {
                if (newAbove % i == 0 && newBelow % i == 0) {
                    divisor = i;
                }
            }
            above = newAbove / divisor;
            below = newBelow / divisor;
        }

        void becomeLesser(int newAbove, int newBelow) {
            if (below == NONE || newAbove * below < above * newBelow) {
                become(newAbove, newBelow);
            }
        }
    }

    /**
     * The choices of entries of the first rows in a set of columns: for each set, their least sum,
     * and how many have it.
     */
    private static final class Choices {
        private final int[] sums = new int[1 << MOST_ROWS];
        private final int[] counts = new int[1 << MOST_ROWS];

        int leastSum(Matrix matrix) {
            choose(matrix);
            return sums[(1 << matrix.rows) - 1];
        }

        int countLeast(Matrix matrix) {
            choose(matrix);
            return counts[(1 << matrix.rows) - 1];
        }

        private void choose(Matrix matrix) {
            sums[0] = 0;
            counts[0] = 1;
            for (int set = 1; set < 1 << matrix.rows; set++) {
                sums[set] = INFINITE;
                counts[set] = 0;
                for (int column = 0; column < matrix.rows; column++) {
                    if ((set >> column & 1) == 1) {
                        int entry = matrix.entries[Integer.bitCount(set) - 1][column];
                        offer(set, set - (1 << column), entry);
                    }
                }
            }
        }

        /** What comes of the lesser set and an entry may be the least for the set, or as little. */
        private void offer(int set, int lesser, int entry) {
            int offered = together(sums[lesser], entry);
            if (offered == INFINITE) {
                return;
            }
            if (offered < sums[set]) {
                sums[set] = offered;
                counts[set] = 0;
            }
            if (offered == sums[set]) {
                counts[set] += counts[lesser];
            }
        }
    }

    /** The graph with its chips. A set of vertices is a number, with the bit v for the vertex v. */
    private static final class Net {
        private final int[][] between = new int[VERTICES][VERTICES];
        private final int[] chips = new int[VERTICES];

        /** The set of what is at most so many steps away from the vertex of the first of them. */
        private final int[] near = new int[VERTICES];
        /** Chips to work on: the first are those asked for, the others stand for the rank. */
        private final int[][] piles = new int[VERTICES][VERTICES];
        private final int[][] minors = new int[VERTICES - 1][VERTICES - 1];

        int[] startPile() {
            return piles[0];
        }

        void copyChips() {
            System.arraycopy(chips, 0, piles[0], 0, VERTICES);
        }

        void copyRest() {
            for (int v = 0; v < VERTICES; v++) {
                piles[0][v] = countEdgesInto(v, allVertices()) - 2 - chips[v];
            }
        }

        private int allVertices() {
            return (1 << VERTICES) - 1;
        }

        private boolean has(int set, int vertex) {
            return (set >> vertex & 1) == 1;
        }

        int countEdgesInto(int vertex, int set) {
            int count = 0;
            for (int v = 0; v < VERTICES; v++) {
                if ((set >> v & 1) == 1) {
                    count += between[vertex][v];
                }
            }
            return count;
        }

        boolean hasVertex(int vertex) {
            return vertex == 0 || countEdgesInto(vertex, allVertices()) > 0;
        }

        int countVertices() {
            int count = 0;
            for (int v = 0; v < VERTICES; v++) {
                if (hasVertex(v)) {
                    count++;
                }
            }
            return count;
        }

        int countEdges() {
            int ends = 0;
            for (int v = 0; v < VERTICES; v++) {
                ends += countEdgesInto(v, allVertices());
            }
            return ends / 2;
        }

        int genus() {
            return countEdges() - countVertices() + 1;
        }

        int degree(int[] pile) {
            int count = 0;
            for (int v = 0; v < VERTICES; v++) {
                if (hasVertex(v)) {
                    count += pile[v];
                }
            }
            return count;
        }

        boolean isWithinLimit(int[] pile) {
            for (int v = 0; v < VERTICES; v++) {
                if (isBeyond(pile[v], CHIPS_LIMIT)) {
                    return false;
                }
            }
            return true;
        }

        boolean isConnected() {
            spreadFrom(0);
            for (int v = 0; v < VERTICES; v++) {
                if (hasVertex(v) && !has(near[VERTICES - 1], v)) {
                    return false;
                }
            }
            return true;
        }

        void spreadFrom(int at) {
            near[0] = 1 << at;
            for (int steps = 1; steps < VERTICES; steps++) {
                near[steps] = near[steps - 1];
                for (int v = 0; v < VERTICES; v++) {
                    if (countEdgesInto(v, near[steps - 1]) > 0) {
                        near[steps] |= 1 << v;
                    }
                }
            }
        }

        void fireSet(int[] pile, int set, int times) {
            for (int v = 0; v < VERTICES; v++) {
                if (has(set, v)) {
                    pile[v] -= times * countEdgesInto(v, ~set);
                } else {
                    pile[v] += times * countEdgesInto(v, set);
                }
            }
        }

        /** Reduces at the vertex that was spread from, in a connected graph. */
        void reduce(int[] pile) {
            payDebts(pile);
            for (int i = 0; i < MANY_FIRINGS; i++) {
                int unburnt = findUnburnt(pile);
                if (unburnt == 0) {
                    return;
                }
                fireSet(pile, unburnt, timesThatCanFire(pile, unburnt));
            }
        }

        /**
         * Leaves no vertex below 0 but the one that was spread from: what is nearer fires for what
         * is farther, the farthest first, as that is no more touched then.
         */
        private void payDebts(int[] pile) {
            for (int steps = VERTICES - 1; steps > 0; steps--) {
                int times = 0;
                for (int v = 0; v < VERTICES; v++) {
                    int given = countEdgesInto(v, near[steps - 1]);
                    if (has(near[steps] & ~near[steps - 1], v) && given > 0) {
                        times = Math.max(times, Math.floorDiv(given - 1 - pile[v], given));
                    }
                }
                fireSet(pile, near[steps - 1], times);
            }
        }

        /**
         * The greatest set that can fire: fire spreads from the vertex that was spread from, over
         * vertices that have fewer chips than burnt edges.
         */
        private int findUnburnt(int[] pile) {
            int unburnt = near[VERTICES - 1] & ~near[0];
            for (int round = 1; round < VERTICES; round++) {
                int before = unburnt;
                for (int v = 0; v < VERTICES; v++) {
                    if (has(unburnt, v) && countEdgesInto(v, ~unburnt) > pile[v]) {
                        unburnt -= 1 << v;
                    }
                }
                if (unburnt == before) {
                    break;
                }
            }
            return unburnt;
        }

        private int timesThatCanFire(int[] pile, int set) {
            int times = MANY_FIRINGS;
            for (int v = 0; v < VERTICES; v++) {
                int given = countEdgesInto(v, ~set);
                if (has(set, v) && given > 0) {
                    times = Math.min(times, pile[v] / given);
                }
            }
            return times;
        }

        /**
         * The rank of the first pile, in a connected graph. Reduced chips are never more than the
         * genus, together, beside the vertex that they are reduced at; so whatever is taken may be
         * taken while as many as the genus are left, and no search goes below that.
         */
        int rankOfStart() {
            spreadFrom(0);
            reduce(piles[0]);
            if (piles[0][0] < 0) {
                return -1;
            }
            int floor = Math.max(0, degree(piles[0]) - genus());
            return leastWithTaken(this, 1, 0, piles[0][0], floor);
        }

        /**
         * The rank is at most the known one; it sinks to what is found, when more chips are taken
         * from this vertex and those behind it. Chips of the vertex 0 need no trial: taking them
         * leaves the pile reduced there, so that it bears just as many as it has.
         */
        private static int leastWithTaken(Net net, int vertex, int taken, int known, int floor) {
            if (vertex < 1 || vertex >= VERTICES) {
                int left = net.piles[VERTICES - 1][0];
                return Math.min(known, left < 0 ? taken - 1 : taken + left);
            }
            int[] pile = net.piles[vertex];
            System.arraycopy(net.piles[vertex - 1], 0, pile, 0, VERTICES);
            int least = leastWithTaken(net, vertex + 1, taken, known, floor);
            if (!net.hasVertex(vertex)) {
                return least;
            }
            for (int all = taken + 1; all <= least && least > floor; all++) {
                pile[vertex]--;
                net.reduce(pile);
                least = leastWithTaken(net, vertex + 1, all, least, floor);
            }
            return least;
        }

        /** By the minors of the graph's matrix without the vertex 0. */
        int countSpanningTrees() {
            if (!isConnected()) {
                return 0;
            }
            putLaplacian();
            int before = 1;
            for (int step = 0; step < VERTICES - 2 && before != 0; step++) {
                eliminate(step, before);
                before = minors[step][step];
            }
            return before == 0 ? 0 : minors[VERTICES - 2][VERTICES - 2];
        }

        /** A vertex that is not of the graph gets a 1, which leaves the determinant as it is. */
        private void putLaplacian() {
            for (int i = 1; i < VERTICES; i++) {
                for (int j = 1; j < VERTICES; j++) {
                    minors[i - 1][j - 1] = -between[i][j];
                }
                minors[i - 1][i - 1] = Math.max(1, countEdgesInto(i, allVertices()));
            }
        }

        /** A step of Bareiss: what it divides goes up without a rest, so that all stays whole. */
        private void eliminate(int step, int before) {
            int pivot = minors[step][step];
            for (int i = step + 1; i < VERTICES - 1; i++) {
                for (int j = step + 1; j < VERTICES - 1; j++) {
                    int crossed = minors[i][step] * minors[step][j];
                    minors[i][j] = (pivot * minors[i][j] - crossed) / before;
                }
            }
        }
    }
}
