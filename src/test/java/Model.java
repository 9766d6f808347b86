import java.util.ArrayList;
import java.util.Arrays;
import java.util.HashMap;
import java.util.List;
import java.util.Map;

/**
 * The document's definitions, followed word by word and as slowly as they come: fractions are
 * tried, cycles and choices are listed, chips are lent one by one and every set is tried.
 */
final class Model {
    static final int INF = 1000000;

    final int[][] polynomials = new int[4][9];
    final int[] rows = {1, 1, 1, 1};
    final int[][][] matrices = new int[4][5][5];
    final int[][] vectors = new int[4][5];
    final int[][] between = new int[5][5];
    final int[] chips = new int[5];

    Model() {
        for (int i = 0; i < 4; i++) {
            Arrays.fill(polynomials[i], INF);
            for (int[] row : matrices[i]) {
                Arrays.fill(row, INF);
            }
        }
    }

    private static void such(boolean is) {
        if (!is) {
            throw new IndexOutOfBoundsException();
        }
    }

    private static void argument(boolean is) {
        if (!is) {
            throw new IllegalArgumentException();
        }
    }

    private static void state(boolean is) {
        if (!is) {
            throw new IllegalStateException();
        }
    }

    private static boolean four(int number) {
        return number >= 0 && number < 4;
    }

    private static boolean below(int number, int count) {
        return number >= 0 && number < count;
    }

    private static boolean given(int number) {
        return number == INF || Math.abs((long) number) <= 999;
    }

    private static boolean fits(int number, int limit) {
        return number == INF || Math.abs(number) <= limit;
    }

    private static int add(int one, int other) {
        return one == INF || other == INF ? INF : one + other;
    }

    // ---- polynomials

    int coefficient(int poly, int place, int number) {
        such(four(poly) && below(place, 9));
        argument(given(number));
        int before = polynomials[poly][place];
        polynomials[poly][place] = number;
        return before;
    }

    int value(int poly, int x) {
        such(four(poly));
        argument(Math.abs((long) x) <= 999);
        long least = valueAt(polynomials[poly], x, 1, -1);
        return least == Long.MAX_VALUE ? INF : (int) least;
    }

    /** The value at above / below, below times, without one of the terms. */
    private static long valueAt(int[] coefficients, long above, long below, int without) {
        long least = Long.MAX_VALUE;
        for (int i = 0; i < 9; i++) {
            if (i != without && coefficients[i] != INF) {
                least = Math.min(least, coefficients[i] * below + i * above);
            }
        }
        return least;
    }

    /** Two lines meet at a fraction with a divisor of 840 below; between and beyond is tried too. */
    private static boolean spare(int[] coefficients, int place) {
        if (coefficients[place] == INF) {
            return false;
        }
        List<Long> tried = new ArrayList<>();
        for (int i = 0; i < 9; i++) {
            for (int j = i + 1; j < 9; j++) {
                if (coefficients[i] != INF && coefficients[j] != INF) {
                    long at = (coefficients[i] - coefficients[j]) * (840L / (j - i));
                    tried.add(at - 1);
                    tried.add(at);
                    tried.add(at + 1);
                }
            }
        }
        tried.add(0L);
        for (long above : tried) {
            if (valueAt(coefficients, above, 840, -1) != valueAt(coefficients, above, 840, place)) {
                return false;
            }
        }
        return true;
    }

    private List<Integer> corners(int poly) {
        List<Integer> corners = new ArrayList<>();
        for (int i = 0; i < 9; i++) {
            if (polynomials[poly][i] != INF && !spare(polynomials[poly], i)) {
                corners.add(i);
            }
        }
        return corners;
    }

    int roots(int poly) {
        such(four(poly));
        return Math.max(0, corners(poly).size() - 1);
    }

    int root(int poly, int root, int what) {
        such(four(poly));
        List<int[]> roots = new ArrayList<>();
        List<Integer> corners = corners(poly);
        for (int k = 0; k + 1 < corners.size(); k++) {
            int i = corners.get(k);
            int j = corners.get(k + 1);
            roots.add(new int[] {polynomials[poly][i] - polynomials[poly][j], j - i, j - i});
        }
        roots.sort((one, other) -> Integer.compare(one[0] * other[1], other[0] * one[1]));
        such(below(root, roots.size()));
        argument(below(what, 3));
        int[] found = roots.get(root);
        shorten(found);
        return found[what];
    }

    private static void shorten(int[] fraction) {
        int one = Math.abs(fraction[0]);
        int other = fraction[1];
        while (one != 0) {
            int rest = other % one;
            other = one;
            one = rest;
        }
        fraction[0] /= other;
        fraction[1] /= other;
    }

    boolean isSpare(int poly, int place) {
        such(four(poly) && below(place, 9));
        return spare(polynomials[poly], place);
    }

    boolean areSame(int poly, int other) {
        such(four(poly) && four(other));
        List<Integer> corners = corners(poly);
        if (!corners.equals(corners(other))) {
            return false;
        }
        for (int i : corners) {
            if (polynomials[poly][i] != polynomials[other][i]) {
                return false;
            }
        }
        return true;
    }

    private int keep(int to, int[] coefficients) {
        polynomials[to] = coefficients;
        int count = 0;
        for (int c : coefficients) {
            count += c == INF ? 0 : 1;
        }
        return count;
    }

    int sum(int poly, int other, int to) {
        such(four(poly) && four(other) && four(to));
        int[] made = new int[9];
        for (int i = 0; i < 9; i++) {
            made[i] = Math.min(polynomials[poly][i], polynomials[other][i]);
        }
        return keep(to, made);
    }

    int product(int poly, int other, int to) {
        such(four(poly) && four(other) && four(to));
        int[] made = new int[17];
        Arrays.fill(made, INF);
        for (int i = 0; i < 9; i++) {
            for (int j = 0; j < 9; j++) {
                made[i + j] = Math.min(made[i + j], add(polynomials[poly][i], polynomials[other][j]));
            }
        }
        for (int k = 0; k < 17; k++) {
            state(k <= 8 ? fits(made[k], 9999) : made[k] == INF);
        }
        return keep(to, Arrays.copyOf(made, 9));
    }

    // ---- matrices

    int matrix(int matrix, int count) {
        such(four(matrix));
        argument(count >= 1 && count <= 5);
        int before = rows[matrix];
        rows[matrix] = count;
        matrices[matrix] = new int[5][5];
        for (int[] row : matrices[matrix]) {
            Arrays.fill(row, INF);
        }
        return before;
    }

    int entry(int matrix, int row, int column, int number) {
        such(four(matrix) && below(row, rows[matrix]) && below(column, rows[matrix]));
        argument(given(number));
        int before = matrices[matrix][row][column];
        matrices[matrix][row][column] = number;
        return before;
    }

    int at(int matrix, int row, int column) {
        such(four(matrix) && below(row, rows[matrix]) && below(column, rows[matrix]));
        return matrices[matrix][row][column];
    }

    int part(int vector, int place, int number) {
        such(four(vector) && below(place, 5));
        argument(given(number));
        int before = vectors[vector][place];
        vectors[vector][place] = number;
        return before;
    }

    int partAt(int vector, int place) {
        such(four(vector) && below(place, 5));
        return vectors[vector][place];
    }

    private int keep(int to, int count, int[][] entries) {
        int numbers = 0;
        for (int i = 0; i < count; i++) {
            for (int j = 0; j < count; j++) {
                state(fits(entries[i][j], 99999));
                numbers += entries[i][j] == INF ? 0 : 1;
            }
        }
        rows[to] = count;
        matrices[to] = entries;
        return numbers;
    }

    int multiply(int matrix, int other, int to) {
        such(four(matrix) && four(other) && four(to));
        state(rows[matrix] == rows[other]);
        int count = rows[matrix];
        int[][] made = new int[5][5];
        for (int i = 0; i < count; i++) {
            for (int j = 0; j < count; j++) {
                made[i][j] = INF;
                for (int k = 0; k < count; k++) {
                    int sum = add(matrices[matrix][i][k], matrices[other][k][j]);
                    made[i][j] = Math.min(made[i][j], sum);
                }
            }
        }
        return keep(to, count, made);
    }

    /** The sums and steps of all ways from a row to another one that come to no row twice. */
    private void listWays(int matrix, int from, int to, int seen, int[] soFar, List<int[]> found) {
        for (int next = 0; next < rows[matrix]; next++) {
            int entry = matrices[matrix][from][next];
            if (entry == INF) {
                continue;
            }
            int[] sum = {soFar[0] + entry, soFar[1] + 1};
            if (next == to) {
                found.add(sum);
            }
            if (next != to && (seen >> next & 1) == 0) {
                listWays(matrix, next, to, seen | 1 << next, sum, found);
            }
        }
    }

    private List<int[]> ways(int matrix, int from, int to) {
        List<int[]> found = new ArrayList<>();
        listWays(matrix, from, to, 1 << from, new int[2], found);
        return found;
    }

    int star(int matrix, int to) {
        such(four(matrix) && four(to));
        int count = rows[matrix];
        int[][] made = new int[5][5];
        for (int i = 0; i < count; i++) {
            for (int j = 0; j < count; j++) {
                made[i][j] = i == j ? 0 : INF;
                for (int[] way : ways(matrix, i, j)) {
                    made[i][j] = Math.min(made[i][j], way[0]);
                }
                state(i != j || made[i][j] >= 0);
            }
        }
        return keep(to, count, made);
    }

    int mean(int matrix, int what) {
        such(four(matrix));
        argument(below(what, 2));
        int[] least = null;
        for (int i = 0; i < rows[matrix]; i++) {
            for (int[] way : ways(matrix, i, i)) {
                if (least == null || way[0] * least[1] < least[0] * way[1]) {
                    least = way;
                }
            }
        }
        if (least == null) {
            return what == 0 ? 0 : -1;
        }
        shorten(least);
        return least[what];
    }

    private void listChoices(int matrix, int row, int used, int sum, List<Integer> found) {
        if (row == rows[matrix]) {
            found.add(sum);
            return;
        }
        for (int j = 0; j < rows[matrix]; j++) {
            if ((used >> j & 1) == 0 && matrices[matrix][row][j] != INF) {
                listChoices(matrix, row + 1, used | 1 << j, sum + matrices[matrix][row][j], found);
            }
        }
    }

    int determinant(int matrix) {
        such(four(matrix));
        List<Integer> found = new ArrayList<>();
        listChoices(matrix, 0, 0, 0, found);
        int least = INF;
        for (int sum : found) {
            least = Math.min(least, sum);
        }
        return least;
    }

    int ways(int matrix) {
        such(four(matrix));
        List<Integer> found = new ArrayList<>();
        listChoices(matrix, 0, 0, 0, found);
        int least = determinant(matrix);
        int count = 0;
        for (int sum : found) {
            count += sum == least ? 1 : 0;
        }
        return count;
    }

    private boolean numbers(int vector, int count) {
        for (int i = 0; i < count; i++) {
            if (vectors[vector][i] == INF) {
                return false;
            }
        }
        return true;
    }

    private void keepVector(int to, int count, int[] parts) {
        for (int i = 0; i < count; i++) {
            state(fits(parts[i], 99999));
        }
        System.arraycopy(parts, 0, vectors[to], 0, count);
    }

    boolean solve(int matrix, int vector, int to) {
        such(four(matrix) && four(vector) && four(to));
        int count = rows[matrix];
        state(numbers(vector, count));
        int[] parts = new int[5];
        for (int j = 0; j < count; j++) {
            int greatest = -INF;
            for (int i = 0; i < count; i++) {
                if (matrices[matrix][i][j] != INF) {
                    greatest = Math.max(greatest, vectors[vector][i] - matrices[matrix][i][j]);
                }
            }
            parts[j] = greatest == -INF ? INF : greatest;
        }
        boolean solves = true;
        for (int i = 0; i < count; i++) {
            int least = INF;
            for (int j = 0; j < count; j++) {
                least = Math.min(least, add(matrices[matrix][i][j], parts[j]));
            }
            solves &= least == vectors[vector][i];
        }
        keepVector(to, count, parts);
        return solves;
    }

    boolean project(int matrix, int vector, int to) {
        such(four(matrix) && four(vector) && four(to));
        int count = rows[matrix];
        state(numbers(vector, count));
        int[] parts = new int[5];
        Arrays.fill(parts, INF);
        for (int r = 0; r < count; r++) {
            int shift = -INF;
            for (int i = 0; i < count; i++) {
                state(matrices[matrix][r][i] != INF);
                shift = Math.max(shift, vectors[vector][i] - matrices[matrix][r][i]);
            }
            for (int i = 0; i < count; i++) {
                parts[i] = Math.min(parts[i], shift + matrices[matrix][r][i]);
            }
        }
        int[] was = vectors[vector].clone();
        keepVector(to, count, parts);
        return Arrays.equals(Arrays.copyOf(was, count), Arrays.copyOf(parts, count));
    }

    int tree(int matrix) {
        such(four(matrix));
        int count = rows[matrix];
        int[][] d = matrices[matrix];
        for (int i = 0; i < count; i++) {
            for (int j = 0; j < count; j++) {
                if (d[i][j] == INF || d[i][j] != d[j][i] || d[i][i] != 0) {
                    return 0;
                }
            }
        }
        for (int four = 0; four < count * count * count * count; four++) {
            int i = four % count;
            int j = four / count % count;
            int k = four / (count * count) % count;
            int l = four / (count * count * count);
            int[] sums = {d[i][j] + d[k][l], d[i][k] + d[j][l], d[i][l] + d[j][k]};
            Arrays.sort(sums);
            if (sums[1] != sums[2]) {
                return 1;
            }
        }
        return 2;
    }

    // ---- chips

    int edges(int vertex, int other, int edges) {
        such(below(vertex, 5) && below(other, 5));
        argument(vertex != other && edges >= 0 && edges <= 3);
        int before = between[vertex][other];
        between[vertex][other] = edges;
        between[other][vertex] = edges;
        return before;
    }

    int chips(int vertex, int count) {
        such(below(vertex, 5));
        argument(Math.abs((long) count) <= 99);
        int before = chips[vertex];
        chips[vertex] = count;
        return before;
    }

    int chipsAt(int vertex) {
        such(below(vertex, 5));
        return chips[vertex];
    }

    int fire(int vertex) {
        such(below(vertex, 5));
        int[] then = chips.clone();
        for (int v = 0; v < 5; v++) {
            then[vertex] -= between[vertex][v];
            then[v] += between[vertex][v];
        }
        for (int v = 0; v < 5; v++) {
            state(Math.abs(then[v]) <= 99);
        }
        System.arraycopy(then, 0, chips, 0, 5);
        return chips[vertex];
    }

    private int edgesOf(int vertex) {
        int count = 0;
        for (int v = 0; v < 5; v++) {
            count += between[vertex][v];
        }
        return count;
    }

    private List<Integer> vertices() {
        List<Integer> found = new ArrayList<>();
        for (int v = 0; v < 5; v++) {
            if (v == 0 || edgesOf(v) > 0) {
                found.add(v);
            }
        }
        return found;
    }

    private boolean connected() {
        return trees() > 0;
    }

    private int degree(int[] pile) {
        int count = 0;
        for (int v : vertices()) {
            count += pile[v];
        }
        return count;
    }

    /** Who has debts borrows one along each edge; then each set that can be fired is fired. */
    private int[] reduce(int[] pile, int at) {
        int[] now = pile.clone();
        boolean changed = true;
        while (changed) {
            changed = false;
            for (int v : vertices()) {
                if (v != at && now[v] < 0) {
                    for (int w = 0; w < 5; w++) {
                        now[v] += between[v][w];
                        now[w] -= between[v][w];
                    }
                    changed = true;
                }
            }
        }
        changed = true;
        while (changed) {
            changed = false;
            for (int set = 1; set < 32; set++) {
                int[] then = fired(now, set, at);
                if (then != null) {
                    now = then;
                    changed = true;
                }
            }
        }
        return now;
    }

    /** The chips when the set was fired, or null if it is no such set, or cannot be fired. */
    private int[] fired(int[] now, int set, int at) {
        List<Integer> vertices = vertices();
        int[] then = now.clone();
        for (int v = 0; v < 5; v++) {
            if ((set >> v & 1) == 1) {
                if (v == at || !vertices.contains(v)) {
                    return null;
                }
                for (int w = 0; w < 5; w++) {
                    then[v] -= between[v][w];
                    then[w] += between[v][w];
                }
            }
        }
        for (int v = 0; v < 5; v++) {
            if ((set >> v & 1) == 1 && then[v] < 0) {
                return null;
            }
        }
        return then;
    }

    int reduced(int at, int vertex) {
        such(below(at, 5) && below(vertex, 5));
        state(vertices().contains(at) && vertices().contains(vertex) && connected());
        return reduce(chips, at)[vertex];
    }

    /** One more than the least rank with a chip less, -1 if none alike has 0 or more everywhere. */
    private int rankOf(int[] pile, Map<String, Integer> known) {
        int[] reduced = reduce(pile, 0);
        if (reduced[0] < 0) {
            return -1;
        }
        String name = Arrays.toString(reduced);
        Integer before = known.get(name);
        if (before != null) {
            return before;
        }
        int least = Integer.MAX_VALUE;
        for (int v : vertices()) {
            reduced[v]--;
            least = Math.min(least, rankOf(reduced, known));
            reduced[v]++;
        }
        known.put(name, least + 1);
        return least + 1;
    }

    private int rankOf(int[] pile) {
        state(connected() && degree(pile) <= 8);
        int[] own = new int[5];
        for (int v : vertices()) {
            own[v] = pile[v];
        }
        return rankOf(own, new HashMap<>());
    }

    int rank() {
        return rankOf(chips);
    }

    int restRank() {
        int[] rest = new int[5];
        for (int v : vertices()) {
            rest[v] = edgesOf(v) - 2 - chips[v];
        }
        return rankOf(rest);
    }

    /** Each set of pairs with edges, one less than vertices, that joins all of them, is tried. */
    private int trees() {
        List<int[]> pairs = new ArrayList<>();
        for (int v = 0; v < 5; v++) {
            for (int w = v + 1; w < 5; w++) {
                if (between[v][w] > 0) {
                    pairs.add(new int[] {v, w});
                }
            }
        }
        int count = 0;
        for (int set = 0; set < 1 << pairs.size(); set++) {
            if (Integer.bitCount(set) == vertices().size() - 1) {
                count += waysToJoin(pairs, set);
            }
        }
        return count;
    }

    private int waysToJoin(List<int[]> pairs, int set) {
        int[] part = {0, 1, 2, 3, 4};
        int ways = 1;
        for (int p = 0; p < pairs.size(); p++) {
            if ((set >> p & 1) == 1) {
                int one = part[pairs.get(p)[0]];
                int other = part[pairs.get(p)[1]];
                if (one == other) {
                    return 0;
                }
                for (int v = 0; v < 5; v++) {
                    part[v] = part[v] == other ? one : part[v];
                }
                ways *= between[pairs.get(p)[0]][pairs.get(p)[1]];
            }
        }
        return ways;
    }

    int graph(int what) {
        argument(below(what, 6));
        int edges = 0;
        for (int v = 0; v < 5; v++) {
            for (int w = v + 1; w < 5; w++) {
                edges += between[v][w];
            }
        }
        int[] told = {vertices().size(), edges, edges - vertices().size() + 1, connected() ? 1 : 0,
            degree(chips), trees()};
        return told[what];
    }
}
