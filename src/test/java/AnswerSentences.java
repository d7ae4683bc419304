import java.util.function.Supplier;

/** What the promises answer where there is none, all, or just enough. */
final class AnswerSentences {
    private AnswerSentences() {
    }

    private static void checkShelter(UmbrellaLand x, int shelter, int... due) {
        for (int what = 0; what < due.length; what++) {
            Check.same("shelter(" + shelter + ", " + what + ")", x.shelter(shelter, what), due[what]);
        }
    }

    // ---- promise 1: a new object

    @Sentence(of = "Promise 1", says = "Creates a republic without shelters, at the hour 0.")
    static void newOne() {
        UmbrellaLand x = new UmbrellaLand();
        for (int what = 0; what <= 10; what++) {
            Check.same("count(" + what + ")", x.count(what), 0);
        }
        Check.index(x, "no shelter", () -> x.shelter(0, 0));
        Check.index(x, "no umbrella", () -> x.umbrella(0, 0));
        Check.index(x, "no citizen", () -> x.citizen(0, 0));
        Check.same("pass(100)", x.pass(100), 0);
        Check.same("advise(24)", x.advise(24), -1);
        for (int what = 0; what <= 4; what++) {
            Check.same("foresee(100, " + what + ")", x.foresee(100, what), 0);
        }
        UmbrellaLand y = Lands.fullAndWet();
        y.pass(30);
        Check.same("another one does not change it", new UmbrellaLand().count(1), 0);
        Check.same("nor its hour", new UmbrellaLand().count(0), 0);
    }

    // ---- promises 2 to 6: what is given back

    @Sentence(of = "Promise 2", says = "Returns its number.")
    static void numberOfShelter() {
        UmbrellaLand x = new UmbrellaLand();
        for (int i = 0; i < 8; i++) {
            Check.same("build", x.build(99 - i, i), i);
        }
        UmbrellaLand y = Lands.shelters(1);
        Check.state(y, "a refused one", () -> y.build(1, 0));
        Check.same("takes no number", y.build(2, 0), 1);
    }

    @Sentence(of = "Promise 3", says = "Returns how many umbrellas there are in all.")
    static void umbrellasInAll() {
        UmbrellaLand x = Lands.shelters(0, 40);
        Check.same("the first", x.bring(0, 1), 1);
        Check.same("10 elsewhere", x.bring(1, 10), 11);
        x.addCitizen(0, 1, 0, 12, 1);
        Lands.rainFrom(x, 0, 9, 9, 9, 9);
        x.pass(3);
        Check.same("with one in a hand", x.bring(0, 10), 21);
        x.pass(1);
        Check.same("with a broken one", x.bring(0, 10), 31);
        Check.same("the last", x.bring(1, 9), 40);
        Check.same("all are new in the shelter", x.umbrella(39, 1), 1);
        UmbrellaLand y = Lands.commuter(1, 1, 0);
        Lands.walk(y);
        Check.same("with a forgotten one", y.bring(1, 2), 3);
    }

    @Sentence(of = "Promise 4", says = "Returns the number.")
    static void numberOfCitizen() {
        UmbrellaLand x = Lands.shelters(0, 40);
        for (int i = 0; i < 10; i++) {
            Check.same("addCitizen", x.addCitizen(i % 2, 1 - i % 2, i, 23 - i, 1 + i % 9), i);
        }
        UmbrellaLand y = Lands.shelters(0, 40);
        Check.argument(y, "a refused one", () -> y.addCitizen(0, 1, 1, 2, 10));
        Check.same("takes no number", y.addCitizen(0, 1, 1, 2, 9), 0);
    }

    @Sentence(of = "Promise 5", says = "Returns the rain before.")
    static void rainBefore() {
        UmbrellaLand x = new UmbrellaLand();
        for (int hour = 0; hour < 24; hour++) {
            Check.same("at first", x.setRain(hour, 9), 0);
            Check.same("the most", x.setRain(hour, 9), 9);
            Check.same("the same again", x.setRain(hour, 0), 9);
            Check.argument(x, "10", () -> x.setRain(0, 10));
            Check.same("none, and not what was refused", x.setRain(hour, hour % 10), 0);
        }
        for (int hour = 0; hour < 24; hour++) {
            Check.same("each has its own", x.setRain(hour, 0), hour % 10);
        }
    }

    @Sentence(of = "Promise 6", says = "Returns the demand before.")
    static void demandBefore() {
        UmbrellaLand x = new UmbrellaLand();
        x.build(3, 10);
        x.build(4, 0);
        Check.same("as it was built", x.setDemand(0, 0), 10);
        Check.same("the least", x.setDemand(0, 10), 0);
        Check.same("the most", x.setDemand(0, 10), 10);
        Check.same("of the other one", x.setDemand(1, 1), 0);
        x.addCitizen(1, 0, 1, 12, 1);
        x.setRain(1, 1);
        x.pass(24);
        Check.same("behind a decree", x.setDemand(1, 7), 0);
    }

    // ---- promise 7: shelter

    @Sentence(of = "Promise 7", says = "2 umbrellas there, 3 citizens there")
    static void thereInShelter() {
        UmbrellaLand x = Lands.shelters(0, 40);
        checkShelter(x, 0, 0, 0, 0, 0, 0, 0, 0, -1);
        checkShelter(x, 1, 40, 0, 0, 0, 0, 0, 0, -1);
        x.pass(1);
        Lands.bring(x, 1, 40);
        for (int i = 0; i < 10; i++) {
            x.addCitizen(1, 0, 1, 12, 1);
        }
        checkShelter(x, 1, 40, 0, 40, 10, 0, 0, 0, 0);
        x.setRain(1, 1);
        x.pass(1);
        checkShelter(x, 1, 40, 0, 30, 0, 10, 0, 0, 10);
        checkShelter(x, 0, 0, 0, 0, 0, 0, 0, 0, -1);
        x.pass(3);
        checkShelter(x, 1, 40, 0, 30, 0, 10, 10, 0, 10);
        checkShelter(x, 0, 0, 0, 0, 10, 0, 0, 0, -1);
    }

    @Sentence(of = "Promise 7", says = "4 umbrellas that were taken there in all")
    static void takenInAll() {
        UmbrellaLand x = Lands.commuter(9, 9, 9);
        for (int day = 1; day <= 5; day++) {
            Lands.walk(x);
            Check.same("taken in 0", x.shelter(0, 4), day);
            Check.same("taken in 1", x.shelter(1, 4), day - 1);
            Lands.walk(x);
            Check.same("taken in 1", x.shelter(1, 4), day);
        }
    }

    @Sentence(of = "Promise 7", says = "5 those of them that were forgotten in all")
    static void forgottenInAll() {
        UmbrellaLand x = Lands.commuter(2, 9, 9);
        for (int day = 1; day <= 5; day++) {
            Lands.walk(x);
            Check.same("none forgotten from 0", x.shelter(0, 5), 0);
            Lands.walk(x);
            Check.same("each forgotten from 1", x.shelter(1, 5), day);
        }
    }

    @Sentence(of = "Promise 7", says = "6 how often one was refused there in all")
    static void refusedInAll() {
        UmbrellaLand x = Lands.commuter(9, 0, 0);
        x.addCitizen(0, 1, 1, 12, 9);
        for (int day = 1; day <= 5; day++) {
            Lands.walk(x);
            Check.same("refused in 0", x.shelter(0, 6), 2 * day);
            Check.same("refused in 1", x.shelter(1, 6), day - 1);
            Lands.walk(x);
            Check.same("refused in 1", x.shelter(1, 6), day);
        }
    }

    @Sentence(of = "Promise 7", says = "7 the first umbrella there, -1 if there is none")
    static void firstThere() {
        UmbrellaLand x = Lands.commuter(9, 0, 0);
        Check.same("none yet", x.shelter(0, 7), -1);
        x.bring(0, 1);
        Check.same("the number 0", x.shelter(0, 7), 0);
        Check.same("none there", x.shelter(1, 7), -1);
        Lands.walk(x);
        Check.same("none any more", x.shelter(0, 7), -1);
        Check.same("it is there now", x.shelter(1, 7), 0);
        UmbrellaLand y = Lands.shelters(0, 10);
        Lands.bring(y, 0, 39);
        y.bring(1, 1);
        Check.same("the number 39", y.shelter(1, 7), 39);
    }

    // ---- promise 8: umbrella

    private static void checkUmbrella(UmbrellaLand x, String when, int... due) {
        for (int what = 0; what < due.length; what++) {
            Check.same(when + ": umbrella(0, " + what + ")", x.umbrella(0, what), due[what]);
        }
    }

    @Sentence(of = "Promise 8", says = "1 the number of this shelter or citizen, -1 otherwise")
    static void whereUmbrellaIs() {
        UmbrellaLand x = Lands.shelters(0, 40);
        x.bring(1, 1);
        x.addCitizen(0, 1, 5, 20, 1);
        x.addCitizen(1, 0, 1, 20, 1);
        Check.same("the shelter 1", x.umbrella(0, 1), 1);
        x.setRain(1, 1);
        x.pass(2);
        Check.same("in the hand of the citizen 1", x.umbrella(0, 1), 1);
        Check.same("in a hand", x.umbrella(0, 0), 1);
        x.pass(3);
        Check.same("forgotten", x.umbrella(0, 0), 2);
        Check.same("with nobody, nowhere", x.umbrella(0, 1), -1);
        UmbrellaLand full = Lands.full();
        Check.same("the shelter 0", full.umbrella(0, 1), 0);
        Check.same("the shelter 7", full.umbrella(39, 1), 7);
        UmbrellaLand last = Lands.shelters(0, 40);
        for (int i = 0; i < 10; i++) {
            last.addCitizen(0, 1, i == 9 ? 1 : 2, 12, 1);
        }
        last.bring(0, 1);
        Lands.rainFrom(last, 1, 9, 9, 9, 9);
        last.pass(2);
        Check.same("in the hand of the citizen 9", last.umbrella(0, 1), 9);
        last.pass(3);
        Check.same("broken", last.umbrella(0, 0), 3);
        Check.same("with nobody", last.umbrella(0, 1), -1);
    }

    @Sentence(of = "Promise 8", says = "3 the hours that it still waits, 0 if it does not")
    static void hoursOfWaiting() {
        UmbrellaLand x = Lands.shelters(0, 40);
        x.bring(1, 1);
        x.addCitizen(1, 0, 1, 12, 1);
        x.setRain(1, 1);
        checkUmbrella(x, "new", 0, 1, 0, 0, 0, -1);
        x.pass(2);
        checkUmbrella(x, "in a hand", 1, 0, 1, 0, 1, 1);
        x.pass(3);
        checkUmbrella(x, "forgotten", 2, -1, 1, 24, 1, 1);
        x.setRain(1, 0);
        x.pass(23);
        checkUmbrella(x, "forgotten a day ago", 2, -1, 1, 1, 1, 1);
        x.pass(1);
        checkUmbrella(x, "back", 0, 1, 1, 0, 1, 1);
    }

    @Sentence(of = "Promise 8", says = "4 how often it was taken")
    static void howOftenTaken() {
        UmbrellaLand x = Lands.commuter(9, 1, 0);
        for (int often = 0; often < 9; often++) {
            Check.same("taken", x.umbrella(0, 4), often);
            Lands.walk(x);
        }
    }

    @Sentence(of = "Promise 8", says = "5 the shelter from which it was taken last, -1 if it was not")
    static void takenLast() {
        UmbrellaLand x = Lands.commuter(9, 1, 0);
        Check.same("not yet", x.umbrella(0, 5), -1);
        Lands.walk(x);
        Check.same("from 0", x.umbrella(0, 5), 0);
        Lands.walk(x);
        Check.same("from 1", x.umbrella(0, 5), 1);
        UmbrellaLand carried = Lands.shelters(0, 10);
        carried.bring(0, 2);
        carried.pass(1);
        Check.same("carried", carried.count(10), 1);
        Check.same("which is no taking", carried.umbrella(0, 5), -1);
    }

    // ---- promise 9: citizen

    @Sentence(of = "Promise 9", says = "2 the shelter where this one is, -1 on the way, 3 the hours that are still to be walked")
    static void whereCitizenIs() {
        UmbrellaLand x = Lands.shelters(0, 99);
        x.addCitizen(0, 1, 0, 12, 1);
        Check.same("at home", x.citizen(0, 2), 0);
        Check.same("none to walk", x.citizen(0, 3), 0);
        for (int left = 8; left >= 1; left--) {
            x.pass(1);
            Check.same("on the way", x.citizen(0, 2), -1);
            Check.same("to walk", x.citizen(0, 3), left);
        }
        x.pass(1);
        Check.same("at work", x.citizen(0, 2), 1);
        Check.same("none to walk any more", x.citizen(0, 3), 0);
    }

    @Sentence(of = "Promise 9", says = "4 the umbrella in the hand, -1 without one")
    static void inTheHand() {
        UmbrellaLand x = Lands.shelters(0, 30);
        x.addCitizen(1, 0, 1, 12, 9);
        x.addCitizen(1, 0, 1, 12, 9);
        x.addCitizen(1, 0, 1, 12, 9);
        Check.same("at home", x.citizen(0, 4), -1);
        x.pass(1);
        Lands.bring(x, 0, 38);
        x.bring(1, 2);
        x.setRain(1, 1);
        x.pass(1);
        Check.same("the umbrella 38", x.citizen(0, 4), 38);
        Check.same("the umbrella 39", x.citizen(1, 4), 39);
        Check.same("refused", x.citizen(2, 4), -1);
        x.pass(1);
        Check.same("still", x.citizen(1, 4), 39);
        x.pass(1);
        Check.same("arrived", x.citizen(0, 2), 0);
        Check.same("no more", x.citizen(0, 4), -1);
        UmbrellaLand y = Lands.shelters(0, 30);
        y.bring(0, 1);
        y.addCitizen(0, 1, 1, 12, 9);
        y.setRain(2, 1);
        y.pass(2);
        Check.same("the umbrella 0", y.citizen(0, 4), 0);
    }

    @Sentence(of = "Promise 9", says = "7 umbrellas that were taken, 8 those that were forgotten, 9 how often refused")
    static void countsOfCitizen() {
        UmbrellaLand x = Lands.commuter(2, 1, 0);
        int[][] due = {{1, 0, 0}, {2, 1, 0}, {2, 1, 1}, {3, 1, 1}, {4, 2, 1}};
        Check.same("none taken at first", x.citizen(0, 7), 0);
        Check.same("none forgotten at first", x.citizen(0, 8), 0);
        Check.same("not refused at first", x.citizen(0, 9), 0);
        for (int[] counts : due) {
            Lands.walk(x);
            Check.same("taken", x.citizen(0, 7), counts[0]);
            Check.same("forgotten", x.citizen(0, 8), counts[1]);
            Check.same("refused", x.citizen(0, 9), counts[2]);
        }
    }

    // ---- promise 10: count

    private static void checkCounts(UmbrellaLand x, String when, int... due) {
        for (int what = 0; what < due.length; what++) {
            Check.same(when + ": count(" + what + ")", x.count(what), due[what]);
        }
    }

    @Sentence(of = "Promise 10", says = "4 umbrellas in shelters, 5 in hands, 6 forgotten, 7 broken, 8 citizens on their way")
    static void countsOfAll() {
        checkCounts(new UmbrellaLand(), "none", 0, 0, 0, 0, 0, 0, 0, 0, 0, 0, 0);
        checkCounts(Lands.full(), "full", 0, 8, 40, 10, 40, 0, 0, 0, 0, 0, 0);
        UmbrellaLand x = Lands.shelters(0, 40, 41);
        x.pass(1);
        x.bring(0, 10);
        for (int i = 0; i < 10; i++) {
            x.addCitizen(0, i < 5 ? 1 : 2, 1, 12, 1 + i % 2);
        }
        Lands.rainFrom(x, 1, 9, 9, 9, 2);
        x.pass(3);
        checkCounts(x, "all 10 in hands", 4, 3, 10, 10, 0, 10, 0, 0, 10, 0, 0);
        x.pass(1);
        checkCounts(x, "all 10 there", 5, 3, 10, 10, 5, 0, 5, 0, 0, 0, 0);
        UmbrellaLand y = Lands.shelters(0, 50);
        y.pass(1);
        y.bring(0, 10);
        for (int i = 0; i < 10; i++) {
            y.addCitizen(0, 1, 1, 12, 1);
        }
        Lands.rainFrom(y, 1, 9, 9, 9, 9, 9);
        y.pass(4);
        checkCounts(y, "all 10 broken", 5, 2, 10, 10, 0, 0, 0, 10, 10, 0, 0);
        y.pass(1);
        checkCounts(y, "all 10 wet", 6, 2, 10, 10, 0, 0, 0, 10, 0, 90, 0);
        Lands.rain(y, 0, 1, 2, 3, 4, 5);
        y.pass(11);
        checkCounts(y, "all 10 mended", 17, 2, 10, 10, 10, 0, 0, 0, 0, 90, 0);
        UmbrellaLand z = Lands.commuter(1, 1, 0);
        Lands.walk(z);
        checkCounts(z, "all forgotten", 2, 2, 1, 1, 0, 0, 1, 0, 0, 0, 0);
    }

    @Sentence(of = "Promise 10", says = "9 how wet all are, 10 how often the cart carried one")
    static void wetAndCarried() {
        UmbrellaLand x = Lands.shelters(0, 10);
        x.setRain(1, 9);
        x.pass(24);
        Check.same("nobody is wet", x.count(9), 0);
        Check.same("nothing is carried", x.count(10), 0);
        for (int i = 0; i < 10; i++) {
            x.addCitizen(0, 1, 1, 12, 1);
        }
        x.pass(2);
        Check.same("10 are wet", x.count(9), 90);
        x.pass(24);
        Check.same("10 are wet twice", x.count(9), 180);
        x.bring(0, 4);
        x.pass(24);
        Check.same("carried twice", x.count(10), 2);
    }

    // ---- promise 11: pass

    @Sentence(of = "Promise 11", says = "Returns how many umbrellas were taken in them.")
    static void takenInHours() {
        UmbrellaLand none = Lands.commuter(9, 0, 0);
        Check.same("none", none.pass(100), 0);
        UmbrellaLand all = Lands.shelters(0, 10);
        all.pass(1);
        all.bring(0, 10);
        all.bring(1, 10);
        for (int i = 0; i < 10; i++) {
            all.addCitizen(0, 1, 1, 3, 9);
        }
        Lands.rain(all, 1, 1, 3);
        Check.same("10 in one hour", all.pass(1), 10);
        Check.same("none in the next", all.pass(1), 0);
        Check.same("10 on the way back", all.pass(1), 10);
        Check.same("20 in a day", all.pass(24), 20);
        UmbrellaLand x = Lands.commuter(9, 9, 9);
        x.pass(1);
        Check.same("both ends count: the hours 1 to 25", x.pass(25), 3);
        Check.same("the hours 26 to 73", x.pass(48), 4);
        Check.same("the same one twice on a day counts twice", Lands.commuter(9, 1, 0).pass(24), 2);
    }

    @Sentence(of = "Promise 11", says = "Lets hours go by.")
    static void hoursAreEqual() {
        UmbrellaLand one = Lands.fullAndWet();
        UmbrellaLand many = Lands.fullAndWet();
        int taken = 0;
        for (int hour = 0; hour < 100; hour++) {
            taken += one.pass(1);
        }
        Check.same("100 hours at once", many.pass(100), taken);
        Check.same("are the same as one by one", many.digest(), one.digest());
    }

    // ---- promise 12: foresee

    @Sentence(of = "Promise 12", says = "Returns this, if so many hours went by (nothing is changed).")
    static void foreseen() {
        checkForeseen(Lands::fullAndWet);
        checkForeseen(Lands::half);
        checkForeseen(() -> Lands.commuter(2, 1, 0));
        checkForeseen(() -> Lands.shelters(0, 10));
        checkForeseen(() -> Lands.behind(21, Lands::half));
    }

    private static void checkForeseen(Supplier<UmbrellaLand> land) {
        for (int what = 0; what <= 4; what++) {
            UmbrellaLand x = land.get();
            long before = x.digest();
            for (int hours = 1; hours <= 100; hours++) {
                UmbrellaLand twin = Lands.behind(hours, land);
                Check.same("foresee(" + hours + ", " + what + ")", x.foresee(hours, what), told(twin, what));
            }
            Check.same("nothing is changed", x.digest(), before);
            x.pass(100);
            Check.same("also nothing that comes later", x.digest(), Lands.behind(100, land).digest());
        }
    }

    /** What foresee tells, of a land as it is now. */
    private static int told(UmbrellaLand x, int what) {
        switch (what) {
            case 0:
                return x.count(9);
            case 1:
                return x.count(4);
            case 2:
                return x.count(6);
            case 3:
                return x.count(7);
            default:
                int trust = 0;
                for (int i = 0; i < x.count(3); i++) {
                    trust += x.citizen(i, 5);
                }
                return trust;
        }
    }

    // ---- promise 13: advise

    /** Citizens of these homes leave in the hour 3; it rains as much as this in the hours 3 and 4. */
    private static UmbrellaLand needy(int rain, int... homes) {
        UmbrellaLand x = Lands.shelters(0, 20, 40, 60, 80, 99, 45, 50);
        for (int home : homes) {
            x.addCitizen(home, home == 0 ? 1 : home - 1, 3, 12, 9);
        }
        Lands.rain(x, rain, 3, 4);
        return x;
    }

    @Sentence(of = "Promise 13", says = "with which all would be the least wet in so many hours")
    static void leastWet() {
        for (int home = 0; home < 8; home++) {
            Check.same("the only one in need", needy(1, home).advise(24), home);
        }
        UmbrellaLand x = needy(5, 2, 4);
        x.addCitizen(5, 0, 3, 12, 9);
        Lands.rainFrom(x, 3, 1, 0, 1);
        Check.same("in an hour all are as wet", x.advise(4), 2);
        Check.same("so they are in two", x.advise(5), 2);
        Check.same("in three, the one of the longest walk is wetter", x.advise(6), 5);
        UmbrellaLand all = needy(2, 1, 1, 3);
        Check.same("one keeps one dry, so 1 is as good as 3", all.advise(24), 1);
        UmbrellaLand sum = needy(2, 1, 3);
        sum.addCitizen(2, 3, 6, 20, 9);
        Lands.rain(sum, 1, 6, 7);
        Check.same("that of 3 keeps dry who leaves 2 later, too", sum.advise(24), 3);
        Check.same("but not so soon", sum.advise(6), 1);
    }

    @Sentence(of = "Promise 13", says = "of several the one with the smallest number")
    static void smallestOfSeveral() {
        Check.same("of all", needy(1, 7, 4, 3, 2, 1).advise(24), 1);
        Check.same("of two", needy(1, 4, 2).advise(24), 2);
        Check.same("of two, told the other way round", needy(1, 2, 4).advise(24), 2);
        Check.same("0 of two", needy(1, 4, 0).advise(24), 0);
    }

    @Sentence(of = "Promise 13", says = "-1 if it would help nowhere (nothing is changed)")
    static void helpsNowhere() {
        Check.same("no shelter", new UmbrellaLand().advise(24), -1);
        Check.same("no citizen", needy(9).advise(24), -1);
        Check.same("no rain", needy(0, 1, 2, 3).advise(24), -1);
        UmbrellaLand distrusted = needy(9, 1, 2);
        distrusted.setDemand(1, 6);
        distrusted.setDemand(2, 6);
        Check.same("no trust", distrusted.advise(24), -1);
        distrusted.setDemand(2, 5);
        Check.same("just enough trust", distrusted.advise(24), 2);
        UmbrellaLand served = needy(9, 1, 2);
        served.bring(1, 1);
        Check.same("one is in need", served.advise(24), 2);
        served.bring(2, 1);
        Check.same("all have one", served.advise(24), -1);
        UmbrellaLand x = needy(9, 1, 2);
        UmbrellaLand twin = needy(9, 1, 2);
        for (int hour = 0; hour < 48; hour++) {
            long before = x.digest();
            x.advise(1 + hour % 24);
            Check.same("nothing is changed", x.digest(), before);
            x.pass(1);
            twin.pass(1);
            Check.same("nor anything that comes later", x.digest(), twin.digest());
        }
    }

    @Sentence(of = "Promise 13", says = "in so many hours")
    static void hoursOfAdvice() {
        UmbrellaLand x = Lands.shelters(0, 10);
        x.addCitizen(1, 0, 23, 12, 9);
        x.setRain(23, 1);
        Check.same("not in 23 hours", x.advise(23), -1);
        Check.same("in 24", x.advise(24), 1);
        x.pass(23);
        Check.same("in 1", x.advise(1), 1);
        x.pass(1);
        Check.same("it is gone, for 23 hours", x.advise(23), -1);
        Check.same("but the next day comes", x.advise(24), 1);
    }

    @Sentence(of = "Promise 13", says = "one more umbrella (a new one, with the next number) now")
    static void newOneOfAdvice() {
        UmbrellaLand x = Lands.shelters(0, 30);
        x.bring(0, 1);
        x.addCitizen(0, 1, 1, 5, 9);
        Lands.rainFrom(x, 1, 8, 8, 9);
        x.pass(4);
        Check.same("the one that is there is worn", x.umbrella(0, 2), 25);
        Lands.rainFrom(x, 5, 9, 9, 9);
        Check.same("and would break in the first of 3 hours", x.foresee(4, 0), 18);
        Check.same("a new one would not", x.advise(4), 1);
        x.bring(1, 1);
        Check.same("so it goes", x.foresee(4, 0), 0);
        UmbrellaLand full = Lands.shelters(0, 10);
        full.setDemand(0, 10);
        Lands.bring(full, 0, 39);
        full.addCitizen(1, 0, 0, 12, 9);
        full.setRain(0, 1);
        Check.same("the fortieth", full.advise(1), 1);
    }

    @Sentence(of = "Promise 13", says = "(a new one, with the next number)")
    static void newInEachShelter() {
        UmbrellaLand worn = Lands.shelters(0, 30, 70);
        worn.addCitizen(1, 0, 3, 20, 9);
        worn.addCitizen(2, 1, 6, 20, 9);
        Lands.rainFrom(worn, 3, 9, 9, 9, 9, 9, 9, 1);
        Check.same("27 are kept off from 1, and 28 from 2", worn.advise(24), 2);
        Check.same("asked again, it is as new", worn.advise(24), 2);
        UmbrellaLand broken = Lands.shelters(0, 40, 90);
        broken.addCitizen(1, 0, 12, 22, 9);
        broken.addCitizen(2, 1, 5, 22, 9);
        Lands.rainFrom(broken, 5, 9, 9, 9, 2, 9);
        Lands.rainFrom(broken, 12, 9, 9, 9, 3);
        Check.same("it breaks behind 30 from 1, and behind 38 from 2", broken.advise(24), 2);
        Check.same("asked again, it is whole", broken.advise(24), 2);
    }

    // ---- promise 14: wouldGet

    @Sentence(of = "Promise 14", says = "Returns whether this one would get an umbrella there now, by trust and what is there.")
    static void wouldGet() {
        UmbrellaLand x = Lands.commuter(1, 1, 0);
        for (int demand = 0; demand <= 10; demand++) {
            x.setDemand(0, demand);
            Check.same("trust 5, demand " + demand, x.wouldGet(0, 0), demand <= 5);
            x.setDemand(1, demand);
            Check.same("none there, demand " + demand, x.wouldGet(0, 1), false);
        }
        UmbrellaLand low = Lands.commuter(1, 9, 9);
        UmbrellaLand high = Lands.commuter(9, 9, 9);
        for (int i = 0; i < 6; i++) {
            Lands.walk(low);
            Lands.walk(high);
        }
        low.setDemand(1, 1);
        high.setDemand(0, 10);
        Check.same("trust 0, demand 0", low.wouldGet(0, 0), true);
        Check.same("trust 0, demand 1", low.wouldGet(0, 1), false);
        Check.same("trust 10, demand 10", high.wouldGet(0, 0), true);
        UmbrellaLand gone = Lands.commuter(9, 1, 0);
        Lands.walk(gone);
        Check.same("none there any more", gone.wouldGet(0, 0), false);
        Check.same("one is there now", gone.wouldGet(0, 1), true);
        UmbrellaLand way = Lands.shelters(0, 99);
        way.bring(1, 1);
        way.addCitizen(0, 1, 0, 12, 9);
        way.pass(1);
        Check.same("on the way", way.citizen(0, 2), -1);
        Check.same("by trust and what is there alone", way.wouldGet(0, 1), true);
        long before = way.digest();
        way.wouldGet(0, 1);
        Check.same("nothing is changed", way.digest(), before);
    }

    // ---- promise 15: lasts

    /** An umbrella in the shelter 1 with this wear, 1 to 27, and no rain in any hour. */
    private static UmbrellaLand worn(int wear) {
        UmbrellaLand x = Lands.shelters(0, 30);
        x.bring(0, 1);
        x.addCitizen(0, 1, 1, 12, 9);
        int first = Math.min(9, wear);
        int second = Math.min(9, wear - first);
        Lands.rainFrom(x, 1, first, second, wear - first - second);
        x.pass(4);
        Lands.rain(x, 0, 1, 2, 3);
        Check.same("the wear", x.umbrella(0, 2), wear);
        return x;
    }

    @Sentence(of = "Promise 15", says = "1 if in the first one")
    static void lastsOneHour() {
        for (int wear = 21; wear <= 27; wear++) {
            UmbrellaLand x = worn(wear);
            for (int rain = 0; rain <= 9; rain++) {
                x.setRain(10, rain);
                x.setRain(11, 9);
                Check.same("wear " + wear + ", rain " + rain, x.lasts(0, 10), wear + rain >= 30 ? 1 : 2);
            }
        }
        UmbrellaLand x = worn(20);
        x.setRain(10, 9);
        x.setRain(11, 1);
        Check.same("29, then 30", x.lasts(0, 10), 2);
        x.setRain(10, 8);
        Check.same("29 is not enough", x.lasts(0, 10), 25);
    }

    @Sentence(of = "Promise 15", says = "in how many hours in a row from this hour of the day on it would break")
    static void lastsPastMidnight() {
        UmbrellaLand x = Lands.shelters(0);
        x.bring(0, 1);
        Lands.rain(x, 9, 22, 23, 0, 1);
        Check.same("22, 23, 0 and 1", x.lasts(0, 22), 4);
        Check.same("23, 0, 1 and the next 22", x.lasts(0, 23), 24);
        Check.same("from 21 on", x.lasts(0, 21), 5);
        x.pass(5);
        Check.same("the hour that it is does not count", x.lasts(0, 22), 4);
    }

    @Sentence(of = "Promise 15", says = "also one that is forgotten")
    static void lastsOfForgotten() {
        UmbrellaLand x = Lands.commuter(1, 1, 0);
        Lands.walk(x);
        Check.same("forgotten", x.umbrella(0, 0), 2);
        Lands.rain(x, 9, 10, 11, 12, 13);
        Check.same("1 and 4 times 9", x.lasts(0, 10), 4);
        UmbrellaLand y = Lands.shelters(0, 40);
        y.bring(0, 1);
        y.addCitizen(0, 1, 0, 12, 9);
        Lands.rain(y, 9, 0, 1, 2);
        y.pass(3);
        Check.same("in a hand", y.umbrella(0, 0), 1);
        Check.same("27, and 9 in the first", y.lasts(0, 0), 1);
    }

    @Sentence(of = "Promise 15", says = "-1 if not within 200 hours")
    static void lastsTwoHundred() {
        UmbrellaLand three = worn(3);
        three.setRain(7, 3);
        Check.same("the ninth time is in the hour 200", three.lasts(0, 0), 200);
        Check.same("it is in the hour 201", three.lasts(0, 23), -1);
        Check.same("it is in the hour 199", three.lasts(0, 1), 199);
        UmbrellaLand two = worn(2);
        two.setRain(7, 3);
        Check.same("29 in the hour 200", two.lasts(0, 0), -1);
        Check.same("without rain", worn(27).lasts(0, 0), -1);
    }

    @Sentence(of = "Promise 15", says = "or if it is broken")
    static void lastsOfBroken() {
        UmbrellaLand x = Lands.shelters(0, 40);
        x.bring(0, 1);
        x.addCitizen(0, 1, 0, 12, 9);
        Lands.rain(x, 9, 0, 1, 2, 3);
        x.pass(3);
        Check.same("not yet", x.lasts(0, 3), 1);
        x.pass(1);
        for (int left = 12; left >= 1; left--) {
            Check.same("broken", x.umbrella(0, 3), left);
            Check.same("which lasts no hour", x.lasts(0, 0), -1);
            x.pass(1);
        }
        Check.same("mended", x.umbrella(0, 0), 0);
        Check.same("new again", x.lasts(0, 0), 4);
    }

    // ---- promise 16: trust

    @Sentence(of = "Promise 16", says = "Returns the mean trust of all citizens; 0 if there are none.")
    static void meanTrust() {
        Check.same("nothing", new UmbrellaLand().trust(), 0.0);
        UmbrellaLand x = Lands.shelters(0, 10);
        x.bring(0, 9);
        Check.same("none", x.trust(), 0.0);
        x.addCitizen(0, 1, 1, 3, 1);
        Check.same("one", x.trust(), 5.0);
        x.setRain(1, 1);
        x.pass(2);
        Check.same("one of 3", x.trust(), 3.0);
        x.addCitizen(0, 1, 1, 3, 1);
        x.addCitizen(0, 1, 1, 3, 1);
        Check.same("3, 5 and 5", x.trust(), 13.0 / 3.0);
        for (int i = 3; i < 10; i++) {
            x.addCitizen(0, 1, 1, 3, 1);
        }
        Check.same("3 and 9 times 5", x.trust(), 4.8);
        UmbrellaLand low = Lands.commuter(1, 9, 9);
        for (int i = 0; i < 4; i++) {
            Lands.walk(low);
        }
        Check.same("all trust is 0", low.trust(), 0.0);
        Check.same("all of 10 have 5", Lands.full().trust(), 5.0);
    }

    // ---- promise 17: digest

    @Sentence(of = "Promise 17", says = "A number d starts with 569; for each of the following numbers x, d becomes d * 31 + x")
    static void digestOfNone() {
        UmbrellaLand x = new UmbrellaLand();
        Check.same("35 times 0", x.digest(), Lands.digestOf(x, new int[24]));
        Check.same("reckoned beforehand", x.digest(), -1772847775298073817L);
        x.setRain(23, 1);
        Check.same("the last number counts 1", x.digest(), -1772847775298073817L + 1);
        x.setRain(22, 9);
        Check.same("the last but one counts 31 times", x.digest(), -1772847775298073817L + 1 + 9 * 31);
        UmbrellaLand one = Lands.shelters(5);
        Check.same("a shelter's -1", one.digest(), Lands.digestOf(one, new int[24]));
    }

    @Sentence(of = "Promise 17", says = "which wraps around as a 64-bit integer")
    static void digestOfFull() {
        boolean wasNegative = false;
        boolean wasPositive = false;
        for (int hours = 0; hours < 60; hours++) {
            UmbrellaLand x = Lands.behind(hours, Lands::fullAndWet);
            long due = Lands.digestOf(x, Lands.autumn());
            Check.same("as the parts tell it", x.digest(), due);
            Check.same("told again", x.digest(), due);
            wasNegative |= due < 0;
            wasPositive |= due > 0;
        }
        Check.same("some are negative, some are not", wasNegative && wasPositive, true);
    }

    @Sentence(of = "Promise 17", says = "(all in their order)")
    static void digestInOrder() {
        UmbrellaLand x = Lands.shelters(1, 2);
        UmbrellaLand y = Lands.shelters(2, 1);
        Check.same("as the parts tell it", x.digest(), Lands.digestOf(x, new int[24]));
        Check.same("the other way round", y.digest(), Lands.digestOf(y, new int[24]));
        Check.same("is not the same", x.digest() != y.digest(), true);
        UmbrellaLand first = Lands.shelters(1, 2);
        UmbrellaLand second = Lands.shelters(1, 2);
        first.setRain(0, 1);
        second.setRain(1, 1);
        Check.same("nor is rain at another hour", first.digest() != second.digest(), true);
    }
}
