/** Each "Throws .. if ..": the last numbers that are taken, and the first ones that are refused. */
final class RefusalSentences {
    private RefusalSentences() {
    }

    private static UmbrellaLand twoShelters() {
        return Lands.shelters(0, 50);
    }

    private static UmbrellaLand nineCitizens() {
        UmbrellaLand x = twoShelters();
        for (int i = 0; i < 9; i++) {
            x.addCitizen(0, 1, 1, 2, 3);
        }
        return x;
    }

    /** Two shelters with so many umbrellas in all. */
    private static UmbrellaLand umbrellas(int many) {
        UmbrellaLand x = twoShelters();
        Lands.bring(x, 0, many);
        return x;
    }

    // ---- promise 2: build

    @Sentence(of = "Promise 2", says = "Throws `IllegalArgumentException` if place is not 0 to 99")
    static void buildPlace() {
        Check.limits("build, place", Check.ARGUMENT, 0, 99, UmbrellaLand::new, (x, n) -> x.build(n, 5));
    }

    @Sentence(of = "Promise 2", says = "or demand is not 0 to 10")
    static void buildDemand() {
        Check.limits("build, demand", Check.ARGUMENT, 0, 10, UmbrellaLand::new, (x, n) -> x.build(5, n));
    }

    @Sentence(of = "Promise 2", says = "Throws `IllegalStateException` if there is one at this place")
    static void buildTwice() {
        for (int place = 0; place <= 99; place++) {
            UmbrellaLand x = new UmbrellaLand();
            int same = place;
            int other = place == 0 ? 1 : place - 1;
            x.build(place, 5);
            Check.state(x, "build on " + same + " again", () -> x.build(same, 6));
            Check.takes("build beside it", () -> x.build(other, 5));
            Check.state(x, "build on the first of two", () -> x.build(same, 5));
            Check.state(x, "build on the second of two", () -> x.build(other, 5));
        }
    }

    @Sentence(of = "Promise 2", says = "or there are 8")
    static void buildNinth() {
        UmbrellaLand x = Lands.shelters(1, 2, 3, 4, 5, 6, 7);
        Check.takes("the eighth", () -> x.build(8, 0));
        Check.state(x, "the ninth", () -> x.build(9, 0));
        Check.state(x, "the ninth on the last place", () -> x.build(99, 10));
        Check.state(x, "the ninth on a taken place", () -> x.build(8, 0));
    }

    // ---- promise 3: bring

    @Sentence(of = "Promise 3", says = "Throws `IndexOutOfBoundsException` if there is no such shelter")
    static void bringWhere() {
        UmbrellaLand none = new UmbrellaLand();
        Check.index(none, "bring without shelters", () -> none.bring(0, 1));
        Check.limits("bring, of 2 shelters", Check.INDEX, 0, 1, RefusalSentences::twoShelters, (x, n) -> x.bring(n, 1));
        Check.limits("bring, of 8 shelters", Check.INDEX, 0, 7,
                () -> Lands.shelters(1, 2, 3, 4, 5, 6, 7, 8), (x, n) -> x.bring(n, 10));
    }

    @Sentence(of = "Promise 3", says = "Throws `IllegalArgumentException` if many is not 1 to 10")
    static void bringMany() {
        Check.limits("bring, many", Check.ARGUMENT, 1, 10, RefusalSentences::twoShelters, (x, n) -> x.bring(1, n));
    }

    @Sentence(of = "Promise 3", says = "Throws `IllegalStateException` if there would be more than 40")
    static void bringTooMany() {
        for (int there = 30; there <= 40; there++) {
            for (int many = 1; many <= 10; many++) {
                UmbrellaLand x = umbrellas(there);
                int more = many;
                String call = "bring " + more + " to " + there;
                if (there + many <= 40) {
                    Check.same(call, x.bring(1, more), there + more);
                } else {
                    Check.state(x, call, () -> x.bring(1, more));
                }
            }
        }
    }

    // ---- promise 4: addCitizen

    @Sentence(of = "Promise 4", says = "Throws `IndexOutOfBoundsException` if there is no such shelter")
    static void citizenWhere() {
        UmbrellaLand none = new UmbrellaLand();
        Check.index(none, "addCitizen without shelters", () -> none.addCitizen(0, 1, 1, 2, 3));
        UmbrellaLand one = Lands.shelters(5);
        Check.index(one, "addCitizen without work", () -> one.addCitizen(0, 1, 1, 2, 3));
        Check.index(one, "addCitizen without home", () -> one.addCitizen(1, 0, 1, 2, 3));
        Check.limits("addCitizen, home", Check.INDEX, 0, 6,
                () -> Lands.shelters(1, 2, 3, 4, 5, 6, 7), (x, n) -> x.addCitizen(n, n == 6 ? 0 : 6, 1, 2, 3));
        Check.limits("addCitizen, work", Check.INDEX, 0, 6,
                () -> Lands.shelters(1, 2, 3, 4, 5, 6, 7), (x, n) -> x.addCitizen(n == 6 ? 0 : 6, n, 1, 2, 3));
    }

    @Sentence(of = "Promise 4", says = "Throws `IllegalArgumentException` if both are the same")
    static void citizenWithoutWay() {
        for (int i = 0; i < 8; i++) {
            UmbrellaLand x = Lands.shelters(1, 2, 3, 4, 5, 6, 7, 8);
            int home = i;
            Check.argument(x, "home and work " + home, () -> x.addCitizen(home, home, 1, 2, 3));
            Check.takes("home " + home + ", work beside it", () -> x.addCitizen(home, (home + 1) % 8, 1, 2, 3));
        }
    }

    @Sentence(of = "Promise 4", says = "leaves or returns is not 0 to 23")
    static void citizenHours() {
        Check.limits("addCitizen, leaves", Check.ARGUMENT, 0, 23,
                RefusalSentences::twoShelters, (x, n) -> x.addCitizen(0, 1, n, n == 7 ? 8 : 7, 3));
        Check.limits("addCitizen, returns", Check.ARGUMENT, 0, 23,
                RefusalSentences::twoShelters, (x, n) -> x.addCitizen(0, 1, n == 7 ? 8 : 7, n, 3));
    }

    @Sentence(of = "Promise 4", says = "returns is not 0 to 23, both are the same")
    static void citizenWithOneHour() {
        for (int i = 0; i < 24; i++) {
            UmbrellaLand x = twoShelters();
            int hour = i;
            Check.argument(x, "leaves and returns at " + hour, () -> x.addCitizen(0, 1, hour, hour, 3));
            Check.takes("returns an hour later", () -> x.addCitizen(0, 1, hour, (hour + 1) % 24, 3));
        }
    }

    @Sentence(of = "Promise 4", says = "or forgets is not 1 to 9")
    static void citizenForgets() {
        Check.limits("addCitizen, forgets", Check.ARGUMENT, 1, 9,
                RefusalSentences::twoShelters, (x, n) -> x.addCitizen(0, 1, 1, 2, n));
    }

    @Sentence(of = "Promise 4", says = "Throws `IllegalStateException` if there are 10")
    static void eleventhCitizen() {
        UmbrellaLand x = nineCitizens();
        Check.same("the tenth", x.addCitizen(1, 0, 3, 4, 5), 9);
        Check.state(x, "the eleventh", () -> x.addCitizen(1, 0, 3, 4, 5));
        Check.state(x, "the eleventh, again", () -> x.addCitizen(0, 1, 0, 23, 1));
    }

    // ---- promises 5 and 6: setRain, setDemand

    @Sentence(of = "Promise 5", says = "Throws `IndexOutOfBoundsException` if hour is not 0 to 23")
    static void rainHour() {
        Check.limits("setRain, hour", Check.INDEX, 0, 23, UmbrellaLand::new, (x, n) -> x.setRain(n, 5));
    }

    @Sentence(of = "Promise 5", says = "Throws `IllegalArgumentException` if rain is not 0 to 9")
    static void rainAmount() {
        Check.limits("setRain, rain", Check.ARGUMENT, 0, 9, UmbrellaLand::new, (x, n) -> x.setRain(0, n));
        Check.limits("setRain at 23, rain", Check.ARGUMENT, 0, 9, UmbrellaLand::new, (x, n) -> x.setRain(23, n));
    }

    @Sentence(of = "Promise 6", says = "Throws `IndexOutOfBoundsException` if there is no such shelter")
    static void demandWhere() {
        UmbrellaLand none = new UmbrellaLand();
        Check.index(none, "setDemand without shelters", () -> none.setDemand(0, 0));
        Check.limits("setDemand, of 2", Check.INDEX, 0, 1, RefusalSentences::twoShelters, (x, n) -> x.setDemand(n, 5));
        Check.limits("setDemand, of 8", Check.INDEX, 0, 7, Lands::full, (x, n) -> x.setDemand(n, 5));
    }

    @Sentence(of = "Promise 6", says = "Throws `IllegalArgumentException` if demand is not 0 to 10")
    static void demandAmount() {
        Check.limits("setDemand, demand", Check.ARGUMENT, 0, 10,
                RefusalSentences::twoShelters, (x, n) -> x.setDemand(1, n));
    }

    // ---- promises 7 to 10: shelter, umbrella, citizen, count

    @Sentence(of = "Promise 7", says = "Throws `IndexOutOfBoundsException` if there is no such shelter")
    static void noShelter() {
        UmbrellaLand none = new UmbrellaLand();
        Check.index(none, "shelter without shelters", () -> none.shelter(0, 0));
        Check.limits("shelter, of 2", Check.INDEX, 0, 1, RefusalSentences::twoShelters, (x, n) -> x.shelter(n, 0));
        Check.limits("shelter, of 8", Check.INDEX, 0, 7, Lands::full, (x, n) -> x.shelter(n, 7));
    }

    @Sentence(of = "Promise 7", says = "or what is not 0 to 7")
    static void noTellingOfShelter() {
        Check.limits("shelter, what", Check.INDEX, 0, 7, RefusalSentences::twoShelters, (x, n) -> x.shelter(1, n));
    }

    @Sentence(of = "Promise 8", says = "Throws `IndexOutOfBoundsException` if there is no such umbrella")
    static void noUmbrella() {
        UmbrellaLand none = twoShelters();
        Check.index(none, "umbrella without umbrellas", () -> none.umbrella(0, 0));
        Check.limits("umbrella, of 1", Check.INDEX, 0, 0, () -> umbrellas(1), (x, n) -> x.umbrella(n, 0));
        Check.limits("umbrella, of 40", Check.INDEX, 0, 39, () -> umbrellas(40), (x, n) -> x.umbrella(n, 5));
    }

    @Sentence(of = "Promise 8", says = "or what is not 0 to 5")
    static void noTellingOfUmbrella() {
        Check.limits("umbrella, what", Check.INDEX, 0, 5, () -> umbrellas(2), (x, n) -> x.umbrella(1, n));
    }

    @Sentence(of = "Promise 9", says = "Throws `IndexOutOfBoundsException` if there is no such citizen")
    static void noCitizen() {
        UmbrellaLand none = twoShelters();
        Check.index(none, "citizen without citizens", () -> none.citizen(0, 0));
        Check.limits("citizen, of 9", Check.INDEX, 0, 8, RefusalSentences::nineCitizens, (x, n) -> x.citizen(n, 0));
        Check.limits("citizen, of 10", Check.INDEX, 0, 9, Lands::full, (x, n) -> x.citizen(n, 9));
    }

    @Sentence(of = "Promise 9", says = "or what is not 0 to 9")
    static void noTellingOfCitizen() {
        Check.limits("citizen, what", Check.INDEX, 0, 9, RefusalSentences::nineCitizens, (x, n) -> x.citizen(8, n));
    }

    @Sentence(of = "Promise 10", says = "Throws `IndexOutOfBoundsException` if what is not 0 to 10")
    static void noCount() {
        Check.limits("count, what, when new", Check.INDEX, 0, 10, UmbrellaLand::new, (x, n) -> x.count(n));
        Check.limits("count, what, when full", Check.INDEX, 0, 10, Lands::full, (x, n) -> x.count(n));
    }

    // ---- promises 11 to 15: pass, foresee, advise, wouldGet, lasts

    @Sentence(of = "Promise 11", says = "Throws `IllegalArgumentException` if hours is not 1 to 100")
    static void passHours() {
        Check.limits("pass, hours", Check.ARGUMENT, 1, 100, UmbrellaLand::new, (x, n) -> x.pass(n));
        Check.limits("pass, hours, when full", Check.ARGUMENT, 1, 100, Lands::fullAndWet, (x, n) -> x.pass(n));
    }

    @Sentence(of = "Promise 12", says = "Throws `IllegalArgumentException` if hours is not 1 to 100")
    static void foreseeHours() {
        Check.limits("foresee, hours", Check.ARGUMENT, 1, 100, UmbrellaLand::new, (x, n) -> x.foresee(n, 0));
        Check.limits("foresee, hours, when full", Check.ARGUMENT, 1, 100, Lands::fullAndWet, (x, n) -> x.foresee(n, 4));
    }

    @Sentence(of = "Promise 12", says = "Throws `IndexOutOfBoundsException` if what is not 0 to 4")
    static void foreseeWhat() {
        Check.limits("foresee, what", Check.INDEX, 0, 4, UmbrellaLand::new, (x, n) -> x.foresee(1, n));
        Check.limits("foresee, what, when full", Check.INDEX, 0, 4, Lands::fullAndWet, (x, n) -> x.foresee(100, n));
    }

    @Sentence(of = "Promise 13", says = "Throws `IllegalArgumentException` if hours is not 1 to 24")
    static void adviseHours() {
        Check.limits("advise, hours", Check.ARGUMENT, 1, 24, UmbrellaLand::new, (x, n) -> x.advise(n));
        Check.limits("advise, hours, of some", Check.ARGUMENT, 1, 24, Lands::half, (x, n) -> x.advise(n));
    }

    @Sentence(of = "Promise 13", says = "Throws `IllegalStateException` if there are 40 umbrellas")
    static void adviseWithForty() {
        UmbrellaLand x = umbrellas(39);
        Check.takes("advise(24) with 39", () -> x.advise(24));
        Check.takes("advise(1) with 39", () -> x.advise(1));
        x.bring(1, 1);
        Check.state(x, "advise(24) with 40", () -> x.advise(24));
        Check.state(x, "advise(1) with 40", () -> x.advise(1));
        UmbrellaLand y = Lands.fullAndWet();
        for (int hour = 0; hour < 48; hour++) {
            y.pass(1);
            Check.state(y, "advise(24) with 40, wherever they are", () -> y.advise(24));
        }
    }

    @Sentence(of = "Promise 14", says = "Throws `IndexOutOfBoundsException` if there is no such citizen or shelter")
    static void wouldGetWho() {
        UmbrellaLand none = twoShelters();
        Check.index(none, "wouldGet without citizens", () -> none.wouldGet(0, 0));
        UmbrellaLand empty = new UmbrellaLand();
        Check.index(empty, "wouldGet without anything", () -> empty.wouldGet(0, 0));
        Check.limits("wouldGet, of 9 citizens", Check.INDEX, 0, 8,
                RefusalSentences::nineCitizens, (x, n) -> x.wouldGet(n, 1));
        Check.limits("wouldGet, of 10 citizens", Check.INDEX, 0, 9, Lands::full, (x, n) -> x.wouldGet(n, 7));
        Check.limits("wouldGet, of 2 shelters", Check.INDEX, 0, 1,
                RefusalSentences::nineCitizens, (x, n) -> x.wouldGet(8, n));
        Check.limits("wouldGet, of 8 shelters", Check.INDEX, 0, 7, Lands::full, (x, n) -> x.wouldGet(9, n));
    }

    @Sentence(of = "Promise 15", says = "Throws `IndexOutOfBoundsException` if there is no such umbrella")
    static void lastsWhich() {
        UmbrellaLand none = twoShelters();
        Check.index(none, "lasts without umbrellas", () -> none.lasts(0, 0));
        Check.limits("lasts, of 1", Check.INDEX, 0, 0, () -> umbrellas(1), (x, n) -> x.lasts(n, 0));
        Check.limits("lasts, of 40", Check.INDEX, 0, 39, () -> umbrellas(40), (x, n) -> x.lasts(n, 23));
    }

    @Sentence(of = "Promise 15", says = "or hour is not 0 to 23")
    static void lastsFromWhen() {
        Check.limits("lasts, hour", Check.INDEX, 0, 23, () -> umbrellas(1), (x, n) -> x.lasts(0, n));
        Check.limits("lasts, hour, of a broken one", Check.INDEX, 0, 23,
                RefusalSentences::withABrokenOne, (x, n) -> x.lasts(0, n));
    }

    private static UmbrellaLand withABrokenOne() {
        UmbrellaLand x = Lands.shelters(0, 40);
        x.bring(0, 1);
        x.addCitizen(0, 1, 0, 12, 1);
        Lands.rainFrom(x, 0, 9, 9, 9, 9);
        x.pass(4);
        return x;
    }
}
