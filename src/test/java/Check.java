/** Counts the answers that are not the ones that are due, and prints each of them. */
final class Check {
    private static int wrong = 0;
    private static String name = "";

    private Check() {
    }

    static void due(String call, long got, long want) {
        if (got != want) {
            note(call + " answered " + got + ", due is " + want);
        }
    }

    static void due(String call, boolean got, boolean want) {
        due(call, got ? 1 : 0, want ? 1 : 0);
    }

    /** What stands ahead of all notes from now on. */
    static void name(String test) {
        name = test;
    }

    static void note(String what) {
        wrong++;
        System.out.println(name + what);
    }

    static void noSuch(String call, Runnable run) {
        thrown(call, IndexOutOfBoundsException.class, run);
    }

    static void badArgument(String call, Runnable run) {
        thrown(call, IllegalArgumentException.class, run);
    }

    static void badState(String call, Runnable run) {
        thrown(call, IllegalStateException.class, run);
    }

    /** The very class is due: a class below it would be one that the machine threw. */
    static void thrown(String call, Class<?> want, Runnable run) {
        String got = "nothing";
        try {
            run.run();
        } catch (RuntimeException e) {
            got = e.getClass().getName();
        }
        if (!got.equals(want.getName())) {
            note(call + " threw " + got + ", due is " + want.getName());
        }
    }

    static void end(String test) {
        System.out.println(test + (wrong == 0 ? ": all as due" : ": " + wrong + " not as due"));
        if (wrong != 0) {
            System.exit(1);
        }
    }
}
