import java.util.function.ObjIntConsumer;
import java.util.function.Supplier;

/** Compares answers with those that are due, and counts the wrong ones. */
final class Check {
    static final Class<?> INDEX = IndexOutOfBoundsException.class;
    static final Class<?> ARGUMENT = IllegalArgumentException.class;
    static final Class<?> STATE = IllegalStateException.class;

    private static long checks = 0;
    private static int wrong = 0;
    private static String sentence = "";

    private Check() {
    }

    /** What is checked from here on holds the class to this sentence; none if it is empty. */
    static void begin(String newSentence) {
        sentence = newSentence;
    }

    static long checks() {
        return checks;
    }

    static void same(String call, long got, long due) {
        checks++;
        if (got != due) {
            wrong(call + " answered " + got + ", due is " + due);
        }
    }

    static void same(String call, double got, double due) {
        checks++;
        if (Double.compare(got, due) != 0) {
            wrong(call + " answered " + got + ", due is " + due);
        }
    }

    static void same(String call, boolean got, boolean due) {
        same(call, got ? 1L : 0L, due ? 1L : 0L);
    }

    static void index(UmbrellaLand land, String call, Runnable run) {
        refuses(land, call, run, INDEX);
    }

    static void argument(UmbrellaLand land, String call, Runnable run) {
        refuses(land, call, run, ARGUMENT);
    }

    static void state(UmbrellaLand land, String call, Runnable run) {
        refuses(land, call, run, STATE);
    }

    /** The call has to throw an exception of just this class, and to change nothing. */
    private static void refuses(UmbrellaLand land, String call, Runnable run, Class<?> due) {
        checks++;
        long before = land.digest();
        String got = thrownBy(run);
        if (!got.equals(due.getName())) {
            wrong(call + " threw " + got + ", due is " + due.getName());
        }
        if (land.digest() != before) {
            wrong(call + " threw and changed the object");
        }
    }

    static void takes(String call, Runnable run) {
        checks++;
        String got = thrownBy(run);
        if (!got.equals("nothing")) {
            wrong(call + " threw " + got + ", due is an answer");
        }
    }

    /** Each number from least to most is taken, on a land of its own; those beside them are refused. */
    static void limits(String call, Class<?> due, int least, int most, Supplier<UmbrellaLand> land,
            ObjIntConsumer<UmbrellaLand> run) {
        for (int number = least; number <= most; number++) {
            int taken = number;
            UmbrellaLand x = land.get();
            takes(call + " with " + taken, () -> run.accept(x, taken));
        }
        for (int number : new int[] {least - 1, most + 1, Integer.MIN_VALUE, Integer.MAX_VALUE}) {
            UmbrellaLand x = land.get();
            refuses(x, call + " with " + number, () -> run.accept(x, number), due);
        }
    }

    private static String thrownBy(Runnable run) {
        try {
            run.run();
        } catch (RuntimeException e) {
            return e.getClass().getName();
        }
        return "nothing";
    }

    static void wrong(String text) {
        wrong++;
        System.out.println(sentence.isEmpty() ? text : sentence + ": " + text);
    }

    static void end(String name) {
        System.out.println(name + ": " + checks + " checks, " + wrong + " wrong");
        if (wrong != 0) {
            System.exit(1);
        }
    }
}
