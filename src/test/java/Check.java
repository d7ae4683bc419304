/** Compares answers with those that are due, and counts the wrong ones. */
final class Check {
    private static final Class<?> INDEX = IndexOutOfBoundsException.class;
    private static final Class<?> ARGUMENT = IllegalArgumentException.class;
    private static final Class<?> STATE = IllegalStateException.class;

    private static int checks = 0;
    private static int wrong = 0;

    private Check() {
    }

    static void same(String call, long got, long due) {
        checks++;
        if (got != due) {
            tellWrong(call + " answered " + got + ", due is " + due);
        }
    }

    static void same(String call, double got, double due) {
        checks++;
        if (Double.compare(got, due) != 0) {
            tellWrong(call + " answered " + got + ", due is " + due);
        }
    }

    static void same(String call, boolean got, boolean due) {
        same(call, got ? 1L : 0L, due ? 1L : 0L);
    }

    static void index(UmbrellaLand land, String call, Runnable run) {
        refuses(land, call, run, INDEX);
    }

    static void argument(UmbrellaLand land, String call, Runnable run) {
        refuses(land, call, run, ARGUMENT);
    }

    static void state(UmbrellaLand land, String call, Runnable run) {
        refuses(land, call, run, STATE);
    }

    /** The call has to throw an exception of just this class, and to change nothing. */
    private static void refuses(UmbrellaLand land, String call, Runnable run, Class<?> due) {
        checks++;
        long before = land.digest();
        String got = "nothing";
        try {
            run.run();
        } catch (RuntimeException e) {
            got = e.getClass().getName();
        }
        if (!got.equals(due.getName())) {
            tellWrong(call + " threw " + got + ", due is " + due.getName());
        }
        if (land.digest() != before) {
            tellWrong(call + " threw and changed the object");
        }
    }

    private static void tellWrong(String text) {
        wrong++;
        System.out.println(text);
    }

    static void end(String name) {
        System.out.println(name + ": " + checks + " checks, " + wrong + " wrong");
        if (wrong != 0) {
            System.exit(1);
        }
    }
}
