/** What the document says ahead of its Terms and behind its promises. */
final class FrameSentences {
    private static final int MOST_CALLS = 512;

    private FrameSentences() {
    }

    @Sentence(of = "What it is", says = "An object is used for at most 512 calls after it has been made")
    static void wetToTheLastCall() {
        UmbrellaLand x = new UmbrellaLand();
        int calls = 0;
        x.build(0, 0);
        x.build(99, 0);
        calls += 2;
        for (int i = 0; i < 10; i++) {
            x.addCitizen(0, 1, 0, 12, 1);
            calls++;
        }
        for (int hour = 0; hour < 24; hour++) {
            x.setRain(hour, 9);
            calls++;
        }
        int hours = 0;
        while (calls < MOST_CALLS - 1) {
            Check.same("pass(100), call " + calls, x.pass(100), 0);
            hours += 100;
            calls++;
        }
        int wetHoursOfEach = hours / 24 * 18 + Math.min(9, hours % 24);
        Check.same("how wet all are, told by the last call", x.count(9), 10 * 9 * wetHoursOfEach);
    }

    @Sentence(of = "What it is", says = "at most 512 calls")
    static void fullToTheLastCall() {
        for (int last = 0; last <= 10; last++) {
            UmbrellaLand x = new UmbrellaLand();
            Model model = new Model();
            int calls = fill(x, model);
            while (calls < MOST_CALLS - 1) {
                Check.same("pass(100), call " + calls, x.pass(100), model.pass(100));
                calls++;
            }
            Check.same("count(" + last + ") as the last call", x.count(last), model.count(last));
        }
    }

    @Sentence(of = "What it is", says = "at most 512 calls")
    static void digestAsLastCall() {
        UmbrellaLand x = new UmbrellaLand();
        Model model = new Model();
        int calls = fill(x, model);
        while (calls < MOST_CALLS - 2) {
            Check.same("foresee(100, 0), call " + calls, x.foresee(100, 0), model.foresee(100, 0));
            Check.same("pass(97), call " + calls, x.pass(97), model.pass(97));
            calls += 2;
        }
        Check.same("digest() behind all others", x.digest(), model.digest());
    }

    /** The most of all, in both; returns how many calls that took. */
    private static int fill(UmbrellaLand x, Model model) {
        int calls = 0;
        for (int i = 0; i < 8; i++) {
            Check.same("build", x.build(13 * i, i), model.build(13 * i, i));
            Check.same("bring", x.bring(i, 5), model.bring(i, 5));
            calls += 2;
        }
        for (int i = 0; i < 10; i++) {
            Check.same("addCitizen", x.addCitizen(i % 8, (i + 3) % 8, i, 12 + i, 1 + i % 9),
                    model.addCitizen(i % 8, (i + 3) % 8, i, 12 + i, 1 + i % 9));
            calls++;
        }
        for (int hour = 0; hour < 24; hour++) {
            Check.same("setRain", x.setRain(hour, hour * 5 % 10), model.setRain(hour, hour * 5 % 10));
            calls++;
        }
        return calls;
    }

    @Sentence(of = "Not promised", says = "Nothing is promised beyond the answers and state changes described above")
    static void askingChangesNothing() {
        for (int hours = 0; hours < 30; hours++) {
            UmbrellaLand x = Lands.behind(hours, Lands::half);
            UmbrellaLand twin = Lands.behind(hours, Lands::half);
            long before = x.digest();
            askAll(x);
            Check.same("nothing is changed by asking", x.digest(), before);
            Check.same("the umbrellas taken then", x.pass(1), twin.pass(1));
            Check.same("nor anything that comes later", x.digest(), twin.digest());
        }
    }

    private static void askAll(UmbrellaLand x) {
        for (int i = 0; i < x.count(1); i++) {
            for (int what = 0; what <= 7; what++) {
                x.shelter(i, what);
            }
        }
        for (int i = 0; i < x.count(2); i++) {
            for (int what = 0; what <= 5; what++) {
                x.umbrella(i, what);
            }
            x.lasts(i, i % 24);
        }
        for (int i = 0; i < x.count(3); i++) {
            for (int what = 0; what <= 9; what++) {
                x.citizen(i, what);
            }
            x.wouldGet(i, i % x.count(1));
        }
        for (int what = 0; what <= 4; what++) {
            x.foresee(100, what);
        }
        x.advise(24);
        x.trust();
    }

    @Sentence(of = "Not promised", says = "How the state is held inside the object is free")
    static void noStateIsShared() {
        UmbrellaLand x = Lands.half();
        long before = x.digest();
        UmbrellaLand other = Lands.fullAndWet();
        other.pass(50);
        other.foresee(50, 0);
        Check.same("another object changes nothing", x.digest(), before);
        other = Lands.half();
        Check.same("and one made behind it is as the first was", other.digest(), before);
    }
}
