/** The document's Terms, and the sentences that stand between its steps and its promises. */
final class TermsSentences {
    private TermsSentences() {
    }

    @Sentence(of = "Terms", says = "/ is cut towards 0")
    static void cut() {
        checkWalk(0, 19, 1);
        checkWalk(0, 20, 2);
        checkWalk(29, 0, 2);
        checkWalk(30, 0, 3);
        checkWalk(9, 98, 8);
    }

    @Sentence(of = "Terms", says = "A walk from one to another one takes the difference of their places / 10 hours")
    static void lengthOfWalk() {
        for (int far = 10; far <= 99; far++) {
            checkWalk(0, far, far / 10);
            checkWalk(99, 99 - far, far / 10);
        }
    }

    @Sentence(of = "Terms", says = "but at least 1")
    static void lengthOfShortWalk() {
        for (int far = 1; far <= 9; far++) {
            checkWalk(50, 50 + far, 1);
            checkWalk(50, 50 - far, 1);
        }
    }

    private static void checkWalk(int from, int to, int due) {
        UmbrellaLand x = Lands.shelters(from, to);
        x.addCitizen(0, 1, 0, 12, 1);
        x.pass(1);
        int hours = 1;
        while (x.citizen(0, 2) == -1 && hours < 20) {
            Check.same("hours left from " + from + " to " + to, x.citizen(0, 3), due - hours);
            x.pass(1);
            hours++;
        }
        Check.same("hours from " + from + " to " + to, hours, due);
        Check.same("hours left at the end", x.citizen(0, 3), 0);
        Check.same("there", x.citizen(0, 2), 1);
        x.pass(12 - hours);
        Check.same("not yet back", x.citizen(0, 2), 1);
        x.pass(due);
        Check.same("back as many hours later", x.citizen(0, 2), 0);
    }

    @Sentence(of = "Terms", says = "Time is told in hours, from 0")
    static void firstHour() {
        UmbrellaLand x = new UmbrellaLand();
        Check.same("the hour", x.count(0), 0);
        x.pass(1);
        Check.same("the hour behind it", x.count(0), 1);
    }

    @Sentence(of = "Terms", says = "the hour h is that of the day with the number h by the remainder of 24")
    static void hourOfDay() {
        UmbrellaLand x = Lands.shelters(0, 10);
        x.addCitizen(0, 1, 23, 0, 1);
        x.setRain(23, 3);
        x.setRain(0, 5);
        int wet = 0;
        for (int hour = 0; hour < 100; hour++) {
            x.pass(1);
            boolean walked = hour == 23 || hour == 47 || hour == 71 || hour == 95;
            boolean walkedBack = hour == 24 || hour == 48 || hour == 72 || hour == 96;
            wet += walked ? 3 : walkedBack ? 5 : 0;
            Check.same("wet behind the hour " + hour, x.citizen(0, 6), wet);
        }
    }

    @Sentence(of = "Terms", says = "A table tells the rain of each hour of the day, 0 to 9 (0, at first).")
    static void rainTable() {
        UmbrellaLand x = new UmbrellaLand();
        for (int hour = 0; hour < 24; hour++) {
            Check.same("rain at first", x.setRain(hour, 9), 0);
        }
        for (int hour = 0; hour < 24; hour++) {
            Check.same("the most rain", x.setRain(hour, 0), 9);
            Check.same("no rain again", x.setRain(hour, 1), 0);
        }
    }

    @Sentence(of = "Terms", says = "There are at most 8, numbered from 0 in the order of their building")
    static void shelters() {
        UmbrellaLand x = new UmbrellaLand();
        Check.same("no shelter", x.count(1), 0);
        for (int i = 0; i < 8; i++) {
            Check.same("the number", x.build(90 - 7 * i, 10 - i), i);
            Check.same("so many", x.count(1), i + 1);
        }
        Check.state(x, "a ninth", () -> x.build(0, 0));
        Check.same("8 stay", x.count(1), 8);
        for (int i = 0; i < 8; i++) {
            Check.same("its place", x.shelter(i, 0), 90 - 7 * i);
            Check.same("its demand", x.shelter(i, 1), 10 - i);
        }
    }

    @Sentence(of = "Terms", says = "each at a place, 0 to 99, of its own, with a demand, 0 to 10")
    static void placesAndDemands() {
        UmbrellaLand x = new UmbrellaLand();
        x.build(0, 10);
        x.build(99, 0);
        Check.same("the least place", x.shelter(0, 0), 0);
        Check.same("the most demand", x.shelter(0, 1), 10);
        Check.same("the greatest place", x.shelter(1, 0), 99);
        Check.same("the least demand", x.shelter(1, 1), 0);
        Check.state(x, "0 is the place of another one", () -> x.build(0, 5));
        Check.state(x, "99 is the place of another one", () -> x.build(99, 5));
        Check.takes("1 is free", () -> x.build(1, 10));
        Check.takes("98 is free", () -> x.build(98, 10));
    }

    @Sentence(of = "Terms", says = "There are at most 40, numbered likewise")
    static void umbrellas() {
        UmbrellaLand x = Lands.shelters(0, 10);
        Check.same("no umbrella", x.count(2), 0);
        for (int i = 0; i < 40; i++) {
            Check.same("so many", x.bring(i / 3 % 2, 1), i + 1);
        }
        Check.state(x, "one more", () -> x.bring(0, 1));
        Check.same("40 stay", x.count(2), 40);
        for (int i = 0; i < 40; i++) {
            Check.same("where the umbrella " + i + " is", x.umbrella(i, 1), i / 3 % 2);
        }
    }

    @Sentence(of = "Terms", says = "each has a wear (0, at first)")
    static void firstWear() {
        UmbrellaLand x = Lands.commuter(9, 1, 0);
        Check.same("new", x.umbrella(0, 2), 0);
        Lands.walk(x);
        Check.same("worn", x.umbrella(0, 2), 1);
        x.bring(1, 2);
        Check.same("another new one", x.umbrella(1, 2), 0);
        Check.same("the last new one", x.umbrella(2, 2), 0);
    }

    @Sentence(of = "Terms", says = "is in a shelter, in the hand of a citizen, forgotten, or broken")
    static void oneStateEach() {
        int[] seen = new int[4];
        for (int hours = 1; hours <= 100; hours++) {
            UmbrellaLand x = Lands.behind(hours, TermsSentences::fullAndTrusting);
            int[] many = new int[4];
            for (int i = 0; i < 40; i++) {
                many[x.umbrella(i, 0)]++;
            }
            for (int state = 0; state < 4; state++) {
                Check.same("umbrellas of the state " + state, x.count(4 + state), many[state]);
                seen[state] += many[state];
            }
        }
        for (int state = 0; state < 4; state++) {
            Check.same("the state " + state + " is seen", seen[state] > 0, true);
        }
    }

    private static UmbrellaLand fullAndTrusting() {
        UmbrellaLand x = Lands.fullAndWet();
        for (int i = 0; i < 8; i++) {
            x.setDemand(i, 0);
        }
        return x;
    }

    @Sentence(of = "Terms", says = "of those in a shelter the first one is that with the least wear")
    static void firstByWear() {
        UmbrellaLand x = Lands.commuter(9, 2, 2);
        Lands.walk(x);
        Check.same("0, worn by 1, stands behind 2 and 3", x.shelter(1, 7), 2);
        Lands.walk(x);
        Check.same("2, worn by 1, stands behind 1", x.shelter(0, 7), 1);
        Check.same("3 is the first of 3 and 0", x.shelter(1, 7), 3);
        Lands.walk(x);
        Check.same("1 is carried, and 2, worn by 1, is alone", x.shelter(0, 7), 2);
        Check.same("3 stays ahead of 0 and 1", x.shelter(1, 7), 3);
        Lands.walk(x);
        Check.same("0 and 1 are left, worn by 1", x.shelter(1, 7), 0);
    }

    @Sentence(of = "Terms", says = "of several that with the smallest number")
    static void firstByNumber() {
        UmbrellaLand x = Lands.shelters(0, 10);
        Lands.bring(x, 1, 20);
        Lands.bring(x, 0, 20);
        Check.same("of 20 new ones", x.shelter(1, 7), 0);
        Check.same("of 20 others", x.shelter(0, 7), 20);
        UmbrellaLand y = Lands.commuter(9, 2, 2);
        for (int i = 0; i < 4; i++) {
            Lands.walk(y);
        }
        Check.same("all are worn by 1: the smaller of 0 and 1", y.shelter(1, 7), 0);
        Check.same("all are worn by 1: the smaller of 2 and 3", y.shelter(0, 7), 2);
    }

    @Sentence(of = "Terms", says = "There are at most 10, numbered likewise; each has a home and a work, two different shelters")
    static void citizens() {
        UmbrellaLand x = Lands.shelters(0, 10, 20);
        Check.same("no citizen", x.count(3), 0);
        for (int i = 0; i < 10; i++) {
            Check.same("the number", x.addCitizen(i % 3, (i + 1) % 3, 0, 1, 1), i);
            Check.same("so many", x.count(3), i + 1);
        }
        Check.state(x, "an eleventh", () -> x.addCitizen(0, 1, 0, 1, 1));
        for (int home = 0; home < 3; home++) {
            int same = home;
            Check.argument(x, "home and work are " + same, () -> x.addCitizen(same, same, 0, 1, 1));
        }
        Check.same("10 stay", x.count(3), 10);
        for (int i = 0; i < 10; i++) {
            Check.same("the home", x.citizen(i, 0), i % 3);
            Check.same("the work", x.citizen(i, 1), (i + 1) % 3);
        }
    }

    @Sentence(of = "Terms", says = "an hour of the day when it leaves the home, and another one when it leaves the work")
    static void hoursOfLeaving() {
        for (int leaves = 0; leaves < 24; leaves++) {
            UmbrellaLand x = Lands.shelters(0, 10);
            int both = leaves;
            Check.argument(x, "leaves both at " + both, () -> x.addCitizen(0, 1, both, both, 1));
            x.addCitizen(0, 1, leaves, (leaves + 23) % 24, 1);
            for (int hour = 0; hour < 48; hour++) {
                x.pass(1);
                boolean atWork = hour >= leaves && (hour - leaves) % 24 != 23;
                Check.same("leaves " + leaves + ", stays behind the hour " + hour, x.citizen(0, 2), atWork ? 1 : 0);
            }
        }
    }

    @Sentence(of = "Terms", says = "forgets each so manieth umbrella, 1 to 9")
    static void forgetsFromFirstToNinth() {
        UmbrellaLand x = Lands.commuter(1, 3, 3);
        Lands.walk(x);
        Check.same("who forgets each forgets the first", x.citizen(0, 8), 1);
        Lands.walk(x);
        Check.same("and the second", x.citizen(0, 8), 2);
        UmbrellaLand y = Lands.commuter(9, 3, 3);
        for (int taken = 1; taken <= 18; taken++) {
            Lands.walk(y);
            Check.same("taken", y.citizen(0, 7), taken);
            Check.same("forgotten of " + taken, y.citizen(0, 8), taken < 9 ? 0 : taken < 18 ? 1 : 2);
        }
    }

    @Sentence(of = "Terms", says = "has trust, 0 to 10 (5, at first)")
    static void trust() {
        UmbrellaLand x = Lands.full();
        for (int i = 0; i < 10; i++) {
            Check.same("trust at first", x.citizen(i, 5), 5);
        }
        UmbrellaLand low = Lands.commuter(1, 10, 10);
        UmbrellaLand high = Lands.commuter(9, 10, 10);
        boolean wasLowest = false;
        boolean wasHighest = false;
        for (int i = 0; i < 30; i++) {
            Lands.walk(low);
            Lands.walk(high);
            Check.same("not below 0", low.citizen(0, 5) >= 0, true);
            Check.same("not above 10", high.citizen(0, 5) <= 10, true);
            wasLowest |= low.citizen(0, 5) == 0;
            wasHighest |= high.citizen(0, 5) == 10;
        }
        Check.same("0 is reached", wasLowest, true);
        Check.same("10 is reached", wasHighest, true);
    }

    @Sentence(of = "Terms", says = "At first it is at home.")
    static void atHome() {
        UmbrellaLand x = Lands.shelters(0, 10);
        x.pass(12);
        x.addCitizen(1, 0, 11, 15, 1);
        Check.same("behind the hour of leaving, too", x.citizen(0, 2), 1);
        x.addCitizen(1, 0, 12, 15, 1);
        Check.same("in the hour of leaving, too", x.citizen(1, 2), 1);
        Check.same("both are there", x.shelter(1, 3), 2);
        x.pass(1);
        Check.same("the hour 11 is gone", x.citizen(0, 2), 1);
        Check.same("the hour 12 is not", x.citizen(1, 2), 0);
    }

    @Sentence(of = "Terms", says = "An hour goes like this:")
    static void comesBackAheadOfLeaving() {
        UmbrellaLand x = Lands.shelters(0, 10);
        x.bring(0, 1);
        x.addCitizen(0, 1, 1, 3, 1);
        x.setRain(1, 1);
        x.pass(25);
        Check.same("forgotten, an hour is left", x.umbrella(0, 3), 1);
        Check.same("it is back, and taken in the same hour", x.pass(1), 1);
        Check.same("nobody was refused", x.citizen(0, 9), 0);
    }

    @Sentence(of = "Terms", says = "An hour goes like this:")
    static void comesBackAheadOfCart() {
        UmbrellaLand x = Lands.shelters(0, 10);
        x.addCitizen(0, 1, 6, 9, 1);
        x.addCitizen(0, 1, 6, 9, 1);
        x.setRain(6, 1);
        x.pass(1);
        x.bring(0, 2);
        x.pass(6);
        x.setRain(6, 0);
        x.pass(23);
        Check.same("both are forgotten", x.count(6), 2);
        x.pass(1);
        Check.same("both are back in the hour 6", x.count(4), 2);
        Check.same("and one of them is carried at once", x.count(10), 1);
    }

    @Sentence(of = "Terms", says = "An hour goes like this:")
    static void arrivesAheadOfCart() {
        UmbrellaLand x = Lands.shelters(0, 10);
        x.addCitizen(0, 1, 6, 9, 9);
        x.setRain(6, 1);
        x.pass(1);
        x.bring(0, 3);
        x.pass(6);
        Check.same("one of 3 has walked", x.shelter(1, 2), 1);
        Check.same("so that none of the 2 others is carried", x.count(10), 0);
    }

    @Sentence(of = "Terms", says = "An hour goes like this:")
    static void leavesAheadOfArrivals() {
        UmbrellaLand x = Lands.shelters(0, 10);
        x.bring(0, 1);
        x.addCitizen(0, 1, 1, 3, 9);
        x.addCitizen(1, 0, 1, 3, 9);
        x.setRain(1, 1);
        Check.same("what arrives in an hour is not taken in it", x.pass(2), 1);
        Check.same("who leaves then is refused", x.citizen(1, 9), 1);
        Check.same("though it stands there now", x.shelter(1, 2), 1);
    }

    @Sentence(of = "Terms", says = "An umbrella counts as forgotten from the shelter from which it was taken.")
    static void forgottenFrom() {
        UmbrellaLand x = Lands.commuter(2, 1, 0);
        Lands.walk(x);
        Lands.walk(x);
        Check.same("forgotten behind the way from 1 to 0", x.citizen(0, 8), 1);
        Check.same("forgotten from 1", x.shelter(1, 5), 1);
        Check.same("not from 0, where it was taken first", x.shelter(0, 5), 0);
        UmbrellaLand y = Lands.commuter(1, 0, 0);
        y.addCitizen(0, 1, 1, 3, 1);
        y.pass(1);
        y.bring(0, 2);
        y.pass(23);
        Check.same("2 are forgotten from 0", y.shelter(0, 5), 2);
        Check.same("so that its demand is greater", y.shelter(0, 1), 1);
        Check.same("none from 1", y.shelter(1, 5), 0);
        Check.same("where 2 were refused", y.shelter(1, 6), 2);
    }

    @Sentence(of = "Terms", says = "A method that throws an exception changes nothing.")
    static void refusedCallsChangeNothing() {
        for (int hours = 0; hours < 72; hours++) {
            UmbrellaLand full = Lands.behind(hours, Lands::fullAndWet);
            UmbrellaLand fullTwin = Lands.behind(hours, Lands::fullAndWet);
            UmbrellaLand half = Lands.behind(hours, Lands::half);
            UmbrellaLand halfTwin = Lands.behind(hours, Lands::half);
            RefusedCalls.beAskedOf(full);
            RefusedCalls.beAskedOfFull(full);
            RefusedCalls.beAskedOf(half);
            RefusedCalls.beAskedOfHalf(half);
            Check.same("umbrellas taken in the full one", full.pass(1), fullTwin.pass(1));
            Check.same("umbrellas taken in the half one", half.pass(1), halfTwin.pass(1));
            Check.same("the full one, asked wrong", full.digest(), fullTwin.digest());
            Check.same("the half one, asked wrong", half.digest(), halfTwin.digest());
            Check.same("what the full one foresees", full.foresee(24, 0), fullTwin.foresee(24, 0));
            Check.same("what the half one foresees", half.foresee(24, 0), halfTwin.foresee(24, 0));
        }
    }

    @Sentence(of = "Terms", says = "If several exceptions apply, the one that is named first is thrown.")
    static void namedFirst() {
        UmbrellaLand x = Lands.full();
        Check.argument(x, "build: wrong place, 8 shelters", () -> x.build(100, 0));
        Check.argument(x, "build: wrong demand, 8 shelters", () -> x.build(50, 11));
        Check.argument(x, "build: wrong demand, taken place", () -> x.build(0, -1));
        Check.index(x, "bring: no shelter, wrong many", () -> x.bring(8, 0));
        Check.index(x, "bring: no shelter, 40 umbrellas", () -> x.bring(-1, 1));
        Check.index(x, "bring: no shelter, all wrong", () -> x.bring(8, 11));
        Check.argument(x, "bring: wrong many, 40 umbrellas", () -> x.bring(0, 0));
        Check.argument(x, "bring: too many, 40 umbrellas", () -> x.bring(0, 11));
        Check.index(x, "addCitizen: both no shelter, the same", () -> x.addCitizen(8, 8, 0, 1, 1));
        Check.index(x, "addCitizen: no home, wrong leaves", () -> x.addCitizen(8, 0, 24, 1, 1));
        Check.index(x, "addCitizen: no work, wrong returns", () -> x.addCitizen(0, 8, 0, -1, 1));
        Check.index(x, "addCitizen: no work, the same hours", () -> x.addCitizen(0, -1, 3, 3, 1));
        Check.index(x, "addCitizen: no home, wrong forgets", () -> x.addCitizen(-1, 0, 0, 1, 0));
        Check.index(x, "addCitizen: no home, 10 citizens", () -> x.addCitizen(8, 0, 0, 1, 1));
        Check.index(x, "addCitizen: all wrong", () -> x.addCitizen(-1, -1, 24, 24, 10));
        Check.argument(x, "addCitizen: both the same, 10 citizens", () -> x.addCitizen(1, 1, 0, 1, 1));
        Check.argument(x, "addCitizen: wrong leaves, 10 citizens", () -> x.addCitizen(0, 1, -1, 1, 1));
        Check.argument(x, "addCitizen: wrong returns, 10 citizens", () -> x.addCitizen(0, 1, 0, 24, 1));
        Check.argument(x, "addCitizen: the same hours, 10 citizens", () -> x.addCitizen(0, 1, 0, 0, 1));
        Check.argument(x, "addCitizen: wrong forgets, 10 citizens", () -> x.addCitizen(0, 1, 0, 1, 10));
        Check.index(x, "setRain: no hour, wrong rain", () -> x.setRain(24, 10));
        Check.index(x, "setRain: no hour, wrong rain, below", () -> x.setRain(-1, -1));
        Check.index(x, "setDemand: no shelter, wrong demand", () -> x.setDemand(8, 11));
        Check.index(x, "setDemand: no shelter, wrong demand, below", () -> x.setDemand(-1, -1));
        Check.argument(x, "foresee: wrong hours, wrong what", () -> x.foresee(0, 5));
        Check.argument(x, "foresee: too many hours, wrong what", () -> x.foresee(101, -1));
        Check.argument(x, "advise: no hours, 40 umbrellas", () -> x.advise(0));
        Check.argument(x, "advise: too many hours, 40 umbrellas", () -> x.advise(25));
    }
}
