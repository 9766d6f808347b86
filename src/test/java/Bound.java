import java.lang.reflect.InvocationTargetException;
import java.lang.reflect.Method;
import java.util.ArrayList;
import java.util.Arrays;
import java.util.Comparator;
import java.util.List;
import java.util.function.Consumer;
import java.util.function.ObjIntConsumer;
import java.util.function.Supplier;

/**
 * What the tests of boundary cases share. Each of them is a static method whose name begins with the
 * number of its promise; a refused call is due to throw the very exception, and to change nothing.
 */
final class Bound {
    static final int INF = Amoebary.INFINITE;

    private Bound() {
    }

    /** Runs all tests of a class, by name; each promise from the first to the last has some. */
    static void runAll(Class<?> tests, int first, int last) {
        Method[] methods = tests.getDeclaredMethods();
        Arrays.sort(methods, Comparator.comparing(Method::getName));
        int[] found = new int[last + 1];
        for (Method method : methods) {
            if (method.getName().matches("promise[0-9]{2}.*")) {
                int promise = Integer.parseInt(method.getName().substring(7, 9));
                if (promise < first || promise > last) {
                    Check.note(method.getName() + " is no test of these promises");
                } else {
                    found[promise]++;
                }
                run(method);
            }
        }
        for (int promise = first; promise <= last; promise++) {
            if (found[promise] == 0) {
                Check.note("promise " + promise + " has no test");
            }
        }
        Check.end(tests.getSimpleName());
    }

    private static void run(Method method) {
        Check.name(method.getName() + ": ");
        try {
            method.setAccessible(true);
            method.invoke(null);
        } catch (InvocationTargetException e) {
            Check.note("threw " + e.getCause());
        } catch (IllegalAccessException e) {
            Check.note("cannot be called");
        }
        Check.name("");
    }

    // ---- refused calls

    /** The one called is due to stay like another one, made alike, that is not called. */
    static void refused(Class<?> want, String call, Supplier<Amoebary> make, Consumer<Amoebary> run) {
        Amoebary called = make.get();
        Check.thrown(call, want, () -> run.accept(called));
        if (!all(called).equals(all(make.get()))) {
            Check.note(call + " was refused, but changed something");
        }
    }

    static void noSuch(String call, Supplier<Amoebary> make, Consumer<Amoebary> run) {
        refused(IndexOutOfBoundsException.class, call, make, run);
    }

    static void badArgument(String call, Supplier<Amoebary> make, Consumer<Amoebary> run) {
        refused(IllegalArgumentException.class, call, make, run);
    }

    static void badState(String call, Supplier<Amoebary> make, Consumer<Amoebary> run) {
        refused(IllegalStateException.class, call, make, run);
    }

    /** Takes 0 and the most; refuses what is below, above, and at the ends of all ints. */
    static void index(int most, String call, Supplier<Amoebary> make, ObjIntConsumer<Amoebary> run) {
        takes(call, make, run, 0, most);
        for (int wrong : new int[] {-1, most + 1, Integer.MIN_VALUE, Integer.MAX_VALUE}) {
            noSuch(call + " " + wrong, make, x -> run.accept(x, wrong));
        }
    }

    /** Takes the least and the most; refuses what is below, above, and at the ends of all ints. */
    static void argument(int least, int most, String call, Supplier<Amoebary> make,
            ObjIntConsumer<Amoebary> run) {
        takes(call, make, run, least, most);
        for (int wrong : new int[] {least - 1, most + 1, Integer.MIN_VALUE, Integer.MAX_VALUE}) {
            badArgument(call + " " + wrong, make, x -> run.accept(x, wrong));
        }
    }

    /** Takes -999 to 999 and INFINITE; refuses what is beside them. */
    static void number(String call, Supplier<Amoebary> make, ObjIntConsumer<Amoebary> run) {
        argument(-999, 999, call, make, run);
        takes(call, make, run, INF);
        for (int wrong : new int[] {INF - 1, INF + 1, -INF}) {
            badArgument(call + " " + wrong, make, x -> run.accept(x, wrong));
        }
    }

    private static void takes(String call, Supplier<Amoebary> make, ObjIntConsumer<Amoebary> run,
            int... taken) {
        for (int number : taken) {
            try {
                run.accept(make.get(), number);
            } catch (RuntimeException e) {
                Check.note(call + " " + number + " threw " + e);
            }
        }
    }

    // ---- objects

    /** An object that holds something everywhere; polynomial p has 2 p + 3 terms, matrix p p + 2 rows. */
    static Amoebary filled() {
        Amoebary x = new Amoebary();
        for (int p = 0; p < 4; p++) {
            for (int i = 0; i < 2 * p + 3; i++) {
                x.coefficient(p, i, (i - 3) * (i - 3) - 5 * p);
            }
            x.matrix(p, p + 2);
            for (int i = 0; i < (p + 2) * (p + 2); i++) {
                x.entry(p, i / (p + 2), i % (p + 2), 10 * (i / (p + 2)) - 7 * (i % (p + 2)) + p);
            }
            for (int i = 0; i < 5; i++) {
                x.part(p, i, 3 * i - p);
            }
        }
        for (int v = 0; v < 5; v++) {
            x.chips(v, v - 2);
            x.edges(v, (v + 1) % 5, v % 3 + 1);
        }
        return x;
    }

    /** All that an object holds; it is worn out then, as coefficients are read by putting INFINITE. */
    static List<Integer> all(Amoebary x) {
        List<Integer> all = new ArrayList<>();
        for (int p = 0; p < 4; p++) {
            for (int i = 0; i < 9; i++) {
                all.add(x.coefficient(p, i, INF));
            }
            for (int i = 0; i < 5; i++) {
                all.add(x.partAt(p, i));
            }
            all.addAll(entries(x, p));
        }
        for (int v = 0; v < 5; v++) {
            all.add(x.chipsAt(v));
            for (int w = v + 1; w < 5; w++) {
                all.add(x.edges(v, w, 0));
            }
        }
        return all;
    }

    /** How many rows a matrix has, and its entries; it is of one row then. */
    private static List<Integer> entries(Amoebary x, int matrix) {
        List<Integer> found = new ArrayList<>();
        int rows = 0;
        while (rows < 5 && has(x, matrix, rows)) {
            rows++;
        }
        for (int i = 0; i < rows * rows; i++) {
            found.add(x.at(matrix, i / rows, i % rows));
        }
        found.add(x.matrix(matrix, 1));
        return found;
    }

    private static boolean has(Amoebary x, int matrix, int row) {
        try {
            x.at(matrix, row, row);
            return true;
        } catch (IndexOutOfBoundsException e) {
            return false;
        }
    }

    // ---- numbers that no caller may give, but calls make

    /** Adds a number to all terms of a polynomial, by products with a spare one. */
    static void raise(Amoebary x, int poly, int spare, int number) {
        for (int i = 0; i < 9; i++) {
            x.coefficient(spare, i, i > 0 ? INF : Integer.signum(number));
        }
        for (int left = Math.abs(number); left > 0; left /= 2) {
            if (left % 2 == 1) {
                x.product(poly, spare, poly);
            }
            if (left > 1) {
                x.product(spare, spare, spare);
            }
        }
    }

    /** Adds a number to all columns of a matrix, by products with a spare one. */
    static void raiseAll(Amoebary x, int matrix, int rows, int spare, int number) {
        raiseColumns(x, matrix, rows, spare, number, (1 << rows) - 1);
    }

    /** Adds a number to a column of a matrix, by products with a spare one. */
    static void raiseColumn(Amoebary x, int matrix, int rows, int spare, int number, int column) {
        raiseColumns(x, matrix, rows, spare, number, 1 << column);
    }

    private static void raiseColumns(Amoebary x, int matrix, int rows, int spare, int number,
            int columns) {
        x.matrix(spare, rows);
        for (int i = 0; i < rows; i++) {
            x.entry(spare, i, i, (columns >> i & 1) * Integer.signum(number));
        }
        for (int left = Math.abs(number); left > 0; left /= 2) {
            if (left % 2 == 1) {
                x.multiply(matrix, spare, matrix);
            }
            if (left > 1) {
                x.multiply(spare, spare, spare);
            }
        }
    }
}
