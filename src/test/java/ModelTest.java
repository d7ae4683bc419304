/** Long runs of mixed calls, right and wrong ones, each answered by the class and by the model. */
public final class ModelTest {
    private static final int RUNS = 800;
    /** Of one object, its digests among them. */
    private static final int CALLS = 512;
    private static final int CALLS_A_DIGEST = 4;
    private static final int[] ODD = {Integer.MIN_VALUE, Integer.MAX_VALUE, -1, -100, 1000};

    private long seed;
    private final UmbrellaLand land = new UmbrellaLand();
    private final Model model = new Model();

    private ModelTest(long run) {
        seed = run * 7919 + 17;
    }

    public static void main(String[] args) {
        for (int run = 0; run < RUNS; run++) {
            new ModelTest(run).run(run);
        }
        Check.end("ModelTest");
    }

    private void run(int run) {
        int shelters = 1 + next(8);
        for (int i = 0; i < shelters; i++) {
            both(run, 0);
        }
        for (int call = shelters; call < CALLS; call++) {
            if (call % CALLS_A_DIGEST == 0 || call == CALLS - 1) {
                Check.same("run " + run + ", call " + call + ": digest()", land.digest(), model.digest());
            } else {
                both(run, kind(call));
            }
        }
    }

    /** Early calls furnish the land, later ones let hours go by and look. */
    private int kind(int call) {
        return next(call < 80 ? 12 : 30) % 18;
    }

    private void both(int run, int kind) {
        int[] a = {0, 0, 0, 0, 0};
        fill(kind, a);
        String call = "run " + run + ": " + kind + "(" + a[0] + ", " + a[1] + ", " + a[2] + ", " + a[3] + ", " + a[4] + ")";
        Check.same(call, ofLand(kind, a), ofModel(kind, a));
    }

    private void fill(int kind, int[] a) {
        switch (kind) {
            case 0 -> put(a, next(100), next(4) * next(4));
            case 1 -> put(a, next(9), next(4) + 1);
            case 2, 3 -> put(a, next(8), next(8), next(24), next(24), 1 + next(next(2) == 0 ? 3 : 9));
            case 4, 5, 6 -> put(a, next(24), next(2) * next(10));
            case 7 -> put(a, next(8), next(11));
            case 8 -> put(a, next(8), next(8));
            case 9 -> put(a, next(40), next(6));
            case 10 -> put(a, next(10), next(10));
            case 11 -> put(a, next(11));
            case 12 -> put(a, 1 + next(next(2) == 0 ? 5 : 100));
            case 13 -> put(a, 1 + next(100), next(5));
            case 14 -> put(a, 1 + next(24));
            case 15 -> put(a, next(10), next(8));
            case 16 -> put(a, next(40), next(24));
            default -> put(a);
        }
        if (next(12) == 0) {
            a[next(5)] = next(3) == 0 ? ODD[next(ODD.length)] : next(130) - 10;
        }
    }

    private static void put(int[] a, int... values) {
        System.arraycopy(values, 0, a, 0, values.length);
    }

    private long ofLand(int kind, int[] a) {
        try {
            switch (kind) {
                case 0: return land.build(a[0], a[1]);
                case 1: return land.bring(a[0], a[1]);
                case 2: case 3: return land.addCitizen(a[0], a[1], a[2], a[3], a[4]);
                case 4: case 5: case 6: return land.setRain(a[0], a[1]);
                case 7: return land.setDemand(a[0], a[1]);
                case 8: return land.shelter(a[0], a[1]);
                case 9: return land.umbrella(a[0], a[1]);
                case 10: return land.citizen(a[0], a[1]);
                case 11: return land.count(a[0]);
                case 12: return land.pass(a[0]);
                case 13: return land.foresee(a[0], a[1]);
                case 14: return land.advise(a[0]);
                case 15: return land.wouldGet(a[0], a[1]) ? 1 : 0;
                case 16: return land.lasts(a[0], a[1]);
                default: return Double.doubleToLongBits(land.trust());
            }
        } catch (RuntimeException e) {
            return numberOf(e, -1004);
        }
    }

    private long ofModel(int kind, int[] a) {
        try {
            switch (kind) {
                case 0: return model.build(a[0], a[1]);
                case 1: return model.bring(a[0], a[1]);
                case 2: case 3: return model.addCitizen(a[0], a[1], a[2], a[3], a[4]);
                case 4: case 5: case 6: return model.setRain(a[0], a[1]);
                case 7: return model.setDemand(a[0], a[1]);
                case 8: return model.shelter(a[0], a[1]);
                case 9: return model.umbrella(a[0], a[1]);
                case 10: return model.citizen(a[0], a[1]);
                case 11: return model.count(a[0]);
                case 12: return model.pass(a[0]);
                case 13: return model.foresee(a[0], a[1]);
                case 14: return model.advise(a[0]);
                case 15: return model.wouldGet(a[0], a[1]) ? 1 : 0;
                case 16: return model.lasts(a[0], a[1]);
                default: return Double.doubleToLongBits(model.trust());
            }
        } catch (RuntimeException e) {
            return numberOf(e, -1005);
        }
    }

    /** By the classes themselves: an exception of the machine may be of a class below them. */
    private static long numberOf(RuntimeException e, long other) {
        Class<?> kind = e.getClass();
        if (kind == IndexOutOfBoundsException.class) {
            return -1001;
        }
        if (kind == IllegalArgumentException.class) {
            return -1002;
        }
        return kind == IllegalStateException.class ? -1003 : other;
    }

    private int next(int bound) {
        seed = seed * 6364136223846793005L + 1442695040888963407L;
        return (int) ((seed >>> 33) % bound);
    }
}
