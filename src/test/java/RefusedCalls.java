/** Calls that have to throw: each kind of refusal that each method has. */
final class RefusedCalls {
    private RefusedCalls() {
    }

    /** Refused by a land of 3 shelters and 2 citizens or more. */
    static void beAskedOf(UmbrellaLand x) {
        Check.argument(x, "build on 100", () -> x.build(100, 0));
        Check.argument(x, "build with 11", () -> x.build(98, 11));
        Check.state(x, "build on a taken place", () -> x.build(0, 0));
        Check.index(x, "bring to no shelter", () -> x.bring(-1, 1));
        Check.argument(x, "bring 0", () -> x.bring(0, 0));
        Check.argument(x, "bring 11", () -> x.bring(0, 11));
        Check.index(x, "addCitizen without home", () -> x.addCitizen(8, 0, 1, 2, 3));
        Check.index(x, "addCitizen without work", () -> x.addCitizen(0, 8, 1, 2, 3));
        Check.argument(x, "addCitizen who stays at home", () -> x.addCitizen(2, 2, 1, 2, 3));
        Check.argument(x, "addCitizen who leaves at 24", () -> x.addCitizen(0, 1, 24, 2, 3));
        Check.argument(x, "addCitizen who returns at 24", () -> x.addCitizen(0, 1, 1, 24, 3));
        Check.argument(x, "addCitizen who leaves and returns at 2", () -> x.addCitizen(0, 1, 2, 2, 3));
        Check.argument(x, "addCitizen who forgets each 10th", () -> x.addCitizen(0, 1, 1, 2, 10));
        Check.index(x, "setRain of 24", () -> x.setRain(24, 3));
        Check.argument(x, "setRain to 10", () -> x.setRain(0, 10));
        Check.argument(x, "setRain to -1", () -> x.setRain(1, -1));
        Check.index(x, "setDemand of no shelter", () -> x.setDemand(8, 3));
        Check.argument(x, "setDemand to 11", () -> x.setDemand(0, 11));
        Check.argument(x, "setDemand to -1", () -> x.setDemand(1, -1));
        Check.index(x, "shelter 8", () -> x.shelter(8, 0));
        Check.index(x, "shelter, what 8", () -> x.shelter(0, 8));
        Check.index(x, "umbrella 40", () -> x.umbrella(40, 0));
        Check.index(x, "umbrella, what 6", () -> x.umbrella(0, 6));
        Check.index(x, "citizen 10", () -> x.citizen(10, 0));
        Check.index(x, "citizen, what 10", () -> x.citizen(0, 10));
        Check.index(x, "count, what 11", () -> x.count(11));
        Check.argument(x, "pass 0", () -> x.pass(0));
        Check.argument(x, "pass 101", () -> x.pass(101));
        Check.argument(x, "foresee 101", () -> x.foresee(101, 0));
        Check.index(x, "foresee, what 5", () -> x.foresee(100, 5));
        Check.argument(x, "advise 0", () -> x.advise(0));
        Check.argument(x, "advise 25", () -> x.advise(25));
        Check.index(x, "wouldGet of no citizen", () -> x.wouldGet(10, 0));
        Check.index(x, "wouldGet in no shelter", () -> x.wouldGet(0, 8));
        Check.index(x, "lasts of no umbrella", () -> x.lasts(40, 0));
        Check.index(x, "lasts from 24 on", () -> x.lasts(0, 24));
    }

    /** Refused by a land that has the most of all. */
    static void beAskedOfFull(UmbrellaLand x) {
        Check.state(x, "build a ninth", () -> x.build(50, 0));
        Check.state(x, "bring 1 to 40", () -> x.bring(0, 1));
        Check.state(x, "bring 10 to 40", () -> x.bring(7, 10));
        Check.state(x, "addCitizen to 10", () -> x.addCitizen(0, 1, 1, 2, 3));
        Check.state(x, "advise with 40", () -> x.advise(24));
    }

    /** Refused by a land with 3 shelters, 5 umbrellas and 5 citizens. */
    static void beAskedOfHalf(UmbrellaLand x) {
        Check.index(x, "bring to the shelter 3", () -> x.bring(3, 1));
        Check.index(x, "addCitizen with the home 3", () -> x.addCitizen(3, 0, 1, 2, 3));
        Check.index(x, "addCitizen with the work 3", () -> x.addCitizen(0, 3, 1, 2, 3));
        Check.index(x, "setDemand of the shelter 3", () -> x.setDemand(3, 3));
        Check.index(x, "the shelter 3", () -> x.shelter(3, 0));
        Check.index(x, "the umbrella 5", () -> x.umbrella(5, 0));
        Check.index(x, "the citizen 5", () -> x.citizen(5, 0));
        Check.index(x, "wouldGet of the citizen 5", () -> x.wouldGet(5, 0));
        Check.index(x, "wouldGet in the shelter 3", () -> x.wouldGet(0, 3));
        Check.index(x, "lasts of the umbrella 5", () -> x.lasts(5, 0));
    }
}
