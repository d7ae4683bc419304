/** Promise 11: how an hour goes, step by step as the document tells it. */
public final class HoursTest {
    public static void main(String[] args) {
        takenAreCounted();
        wrongHours();
        lengthOfWalks();
        rainNowOrNextIsFeared();
        leavingHours();
        trustAgainstDemand();
        firstUmbrella();
        citizensInOrder();
        wearAndBreaking();
        breakingAtTheDoor();
        forgettingEachThird();
        trustStaysWithinBounds();
        forgottenComesBackBeforeLeaving();
        forgottenComesBackToItsShelter();
        cartHours();
        cartTies();
        cartTakesTheLeastWorn();
        decreeLower();
        decreeHigher();
        decreeOfOneForgotten();
        decreeOfHour23();
        decreeForgetsTheDay();
        Check.end("HoursTest");
    }

    /** Two shelters an hour from each other, with so many umbrellas in 0 and one citizen from 0 to 1. */
    private static UmbrellaLand pair(int umbrellas, int leaves, int returns, int forgets) {
        UmbrellaLand x = new UmbrellaLand();
        x.build(0, 5);
        x.build(10, 5);
        if (umbrellas > 0) {
            x.bring(0, umbrellas);
        }
        x.addCitizen(0, 1, leaves, returns, forgets);
        return x;
    }

    private static void rainAlways(UmbrellaLand x, int rain) {
        for (int hour = 0; hour < 24; hour++) {
            x.setRain(hour, rain);
        }
    }

    private static void takenAreCounted() {
        UmbrellaLand x = pair(1, 2, 4, 9);
        rainAlways(x, 1);
        Check.same("taken in the hours 0 and 1", x.pass(2), 0);
        Check.same("taken in the hour 2", x.pass(1), 1);
        Check.same("taken in the hour 3", x.pass(1), 0);
        Check.same("taken in 48 hours", x.pass(48), 4);
        Check.same("the hour", x.count(0), 52);
        Check.same("taken in all", x.citizen(0, 7), 5);
    }

    private static void wrongHours() {
        UmbrellaLand x = pair(1, 0, 1, 1);
        for (int wrong : new int[] {0, -1, 101, Integer.MIN_VALUE, Integer.MAX_VALUE}) {
            Check.argument(x, "pass(" + wrong + ")", () -> x.pass(wrong));
        }
        x.pass(100);
        Check.same("100 hours", x.count(0), 100);
        x.pass(1);
        Check.same("101 hours", x.count(0), 101);
    }

    private static void lengthOfWalks() {
        checkWalk(0, 1, 1);
        checkWalk(0, 9, 1);
        checkWalk(0, 10, 1);
        checkWalk(19, 0, 1);
        checkWalk(0, 20, 2);
        checkWalk(49, 20, 2);
        checkWalk(0, 99, 9);
        checkWalk(99, 0, 9);
    }

    private static void checkWalk(int from, int to, int hours) {
        UmbrellaLand x = new UmbrellaLand();
        x.build(from, 0);
        x.build(to, 0);
        x.addCitizen(0, 1, 0, 12, 1);
        for (int i = 1; i < hours; i++) {
            x.pass(1);
            Check.same("hours to walk from " + from + " to " + to, x.citizen(0, 3), hours - i);
            Check.same("on the way", x.citizen(0, 2), -1);
        }
        x.pass(1);
        Check.same("hours to walk at the end", x.citizen(0, 3), 0);
        Check.same("the goal of " + from + " to " + to, x.citizen(0, 2), 1);
        x.pass(12 - hours);
        Check.same("still at work", x.citizen(0, 2), 1);
        x.pass(hours);
        Check.same("back home", x.citizen(0, 2), 0);
    }

    private static void rainNowOrNextIsFeared() {
        checkFear(5, 5, 1);
        checkFear(5, 6, 1);
        checkFear(5, 7, 0);
        checkFear(5, 4, 0);
        checkFear(23, 0, 1);
        checkFear(23, 23, 1);
        checkFear(23, 1, 0);
        checkFear(23, 22, 0);
    }

    private static void checkFear(int leaves, int rainyHour, int due) {
        UmbrellaLand x = pair(1, leaves, leaves == 12 ? 13 : 12, 9);
        x.setRain(rainyHour, 1);
        x.pass(leaves);
        Check.same("leaves " + leaves + ", rain " + rainyHour, x.pass(1), due);
        Check.same("never refused", x.citizen(0, 9), 0);
        UmbrellaLand y = pair(0, leaves, leaves == 12 ? 13 : 12, 9);
        y.setRain(rainyHour, 1);
        y.pass(leaves + 1);
        Check.same("refused if leaves " + leaves + ", rain " + rainyHour, y.citizen(0, 9), due);
        Check.same("refused in the shelter", y.shelter(0, 6), due);
        Check.same("refused elsewhere", y.shelter(1, 6), 0);
    }

    private static void leavingHours() {
        UmbrellaLand x = pair(0, 3, 5, 9);
        int[] stays = {0, 0, 0, 1, 1, 0, 0};
        for (int hour = 0; hour < stays.length; hour++) {
            x.pass(1);
            Check.same("stays behind the hour " + hour, x.citizen(0, 2), stays[hour]);
        }
        UmbrellaLand y = pair(0, 5, 3, 9);
        y.pass(5);
        Check.same("the hour of the work is not that of the home", y.citizen(0, 2), 0);
        y.pass(1);
        Check.same("the hour of the home", y.citizen(0, 2), 1);
        y.pass(21);
        Check.same("the hour of the work, next day", y.citizen(0, 2), 1);
        y.pass(1);
        Check.same("back again", y.citizen(0, 2), 0);
        UmbrellaLand z = new UmbrellaLand();
        z.build(0, 0);
        z.build(30, 0);
        z.addCitizen(0, 1, 0, 2, 1);
        z.pass(3);
        Check.same("arrives when the hour is gone", z.citizen(0, 2), 1);
        z.pass(23);
        Check.same("and waits for the next day", z.citizen(0, 2), 1);
        z.pass(1);
        Check.same("then leaves", z.citizen(0, 2), -1);
    }

    private static void trustAgainstDemand() {
        for (int demand = 0; demand <= 10; demand++) {
            UmbrellaLand x = pair(1, 1, 12, 9);
            x.setDemand(0, demand);
            rainAlways(x, 2);
            Check.same("taken with demand " + demand, x.pass(2), demand <= 5 ? 1 : 0);
            Check.same("wet with demand " + demand, x.citizen(0, 6), demand <= 5 ? 0 : 2);
            Check.same("refused with demand " + demand, x.shelter(0, 6), demand <= 5 ? 0 : 1);
            Check.same("trust with demand " + demand, x.citizen(0, 5), demand <= 5 ? 6 : 5);
        }
    }

    /** Both shelters have two, so that the cart leaves them alone. */
    private static void firstUmbrella() {
        UmbrellaLand x = pair(2, 1, 3, 9);
        x.bring(1, 2);
        rainAlways(x, 4);
        Check.same("the smallest number", x.shelter(0, 7), 0);
        x.pass(2);
        Check.same("0 was carried", x.umbrella(0, 1), 1);
        Check.same("0 is worn, so 2 is the first", x.shelter(1, 7), 2);
        x.pass(2);
        Check.same("2 was carried back", x.umbrella(2, 1), 0);
        Check.same("3 is left ahead of 0", x.shelter(1, 7), 3);
        Check.same("1 is ahead of 2", x.shelter(0, 7), 1);
        x.bring(0, 1);
        Check.same("1 stays ahead of the new 4", x.shelter(0, 7), 1);
        x.setDemand(0, 10);
        Check.same("the demand does not matter", x.shelter(0, 7), 1);
    }

    private static void citizensInOrder() {
        UmbrellaLand x = pair(1, 1, 12, 9);
        x.addCitizen(0, 1, 1, 13, 9);
        rainAlways(x, 3);
        Check.same("one umbrella for two", x.pass(2), 1);
        Check.same("the first one has it", x.citizen(0, 6), 0);
        Check.same("the second one is wet", x.citizen(1, 6), 3);
        Check.same("and was refused", x.citizen(1, 9), 1);
        Check.same("it stands in the other shelter", x.shelter(1, 2), 1);
    }

    private static void wearAndBreaking() {
        UmbrellaLand x = new UmbrellaLand();
        x.build(0, 0);
        x.build(99, 0);
        x.bring(1, 1);
        x.addCitizen(1, 0, 0, 12, 1);
        x.setRain(0, 9);
        x.setRain(1, 9);
        x.setRain(2, 9);
        x.setRain(3, 2);
        x.setRain(4, 1);
        x.setRain(5, 8);
        x.pass(4);
        Check.same("29 does not break", x.umbrella(0, 0), 1);
        x.pass(1);
        Check.same("30 breaks", x.umbrella(0, 0), 3);
        Check.same("nobody has it", x.umbrella(0, 1), -1);
        Check.same("with the wear that it has", x.umbrella(0, 2), 30);
        Check.same("waits", x.umbrella(0, 3), 12);
        Check.same("it still kept dry", x.citizen(0, 6), 0);
        Check.same("no more in the hand", x.citizen(0, 4), -1);
        x.pass(1);
        Check.same("wet behind it", x.citizen(0, 6), 8);
        x.pass(3);
        Check.same("arrived", x.citizen(0, 2), 0);
        Check.same("the trust stays", x.citizen(0, 5), 5);
        Check.same("none was forgotten", x.citizen(0, 8), 0);
        Check.same("nor from the shelter", x.shelter(1, 5), 0);
        x.pass(7);
        Check.same("waits the last hour", x.umbrella(0, 3), 1);
        x.pass(1);
        Check.same("mended", x.umbrella(0, 0), 0);
        Check.same("in the shelter 0", x.umbrella(0, 1), 0);
        Check.same("without wear", x.umbrella(0, 2), 0);
        Check.same("waits no more", x.umbrella(0, 3), 0);
        Check.same("taken once", x.umbrella(0, 4), 1);
        Check.same("from the shelter 1", x.umbrella(0, 5), 1);
    }

    private static void breakingAtTheDoor() {
        UmbrellaLand x = new UmbrellaLand();
        x.build(0, 0);
        x.build(40, 0);
        x.bring(0, 1);
        x.addCitizen(0, 1, 0, 12, 1);
        rainAlways(x, 8);
        x.pass(4);
        Check.same("breaks in the last hour", x.umbrella(0, 0), 3);
        Check.same("with 32", x.umbrella(0, 2), 32);
        Check.same("arrived dry", x.citizen(0, 6), 0);
        Check.same("arrived", x.citizen(0, 2), 1);
        Check.same("the trust stays", x.citizen(0, 5), 5);
        Check.same("broken is not forgotten", x.citizen(0, 8), 0);
        x.pass(11);
        Check.same("broken until the hour 15", x.umbrella(0, 0), 3);
        x.pass(1);
        Check.same("mended in the hour 15", x.umbrella(0, 0), 0);
    }

    private static void forgettingEachThird() {
        UmbrellaLand x = pair(1, 1, 3, 3);
        x.setRain(1, 1);
        x.setRain(3, 1);
        x.pass(4);
        Check.same("two are brought back", x.citizen(0, 5), 7);
        Check.same("none forgotten", x.citizen(0, 8), 0);
        x.pass(24);
        Check.same("three taken", x.citizen(0, 7), 3);
        Check.same("the third is forgotten", x.citizen(0, 8), 1);
        Check.same("the trust is 2 less", x.citizen(0, 5), 5);
        Check.same("forgotten from 0", x.shelter(0, 5), 1);
        Check.same("not from 1", x.shelter(1, 5), 0);
        Check.same("refused on the way back", x.citizen(0, 9), 1);
        Check.same("the umbrella is forgotten", x.umbrella(0, 0), 2);
        Check.same("it is with nobody", x.umbrella(0, 1), -1);
    }

    private static void trustStaysWithinBounds() {
        UmbrellaLand x = new UmbrellaLand();
        x.build(0, 0);
        x.build(1, 0);
        x.bring(0, 10);
        x.bring(1, 10);
        x.addCitizen(0, 1, 1, 3, 1);
        x.addCitizen(0, 1, 1, 3, 9);
        x.setRain(1, 1);
        x.setRain(3, 1);
        int[] hours = {2, 2, 22, 2, 22, 2};
        int[] forgetful = {3, 1, 0, 0, 0, 0};
        int[] careful = {6, 7, 8, 9, 10, 10};
        for (int i = 0; i < hours.length; i++) {
            x.pass(hours[i]);
            Check.same("trust of who forgets all", x.citizen(0, 5), forgetful[i]);
            Check.same("trust of who forgets few", x.citizen(1, 5), careful[i]);
        }
        Check.same("all taken ones were forgotten", x.citizen(0, 8), 6);
        Check.same("never refused", x.citizen(0, 9), 0);
    }

    private static void forgottenComesBackBeforeLeaving() {
        UmbrellaLand x = pair(1, 1, 3, 1);
        x.setDemand(0, 0);
        x.setRain(1, 2);
        x.pass(2);
        Check.same("forgotten in the hour 1", x.umbrella(0, 0), 2);
        Check.same("for 24 hours", x.umbrella(0, 3), 24);
        x.pass(23);
        Check.same("an hour is left", x.umbrella(0, 3), 1);
        Check.same("back in the hour 25 and taken at once", x.pass(1), 1);
        Check.same("twice taken", x.umbrella(0, 4), 2);
        Check.same("taken from the same", x.shelter(0, 4), 2);
    }

    private static void forgottenComesBackToItsShelter() {
        UmbrellaLand x = new UmbrellaLand();
        x.build(0, 0);
        x.build(1, 0);
        x.build(2, 0);
        x.bring(2, 1);
        x.addCitizen(2, 1, 1, 3, 1);
        x.setRain(1, 2);
        x.pass(2);
        x.setRain(1, 0);
        Check.same("forgotten on the way to 1", x.umbrella(0, 0), 2);
        x.pass(24);
        Check.same("in a shelter again", x.umbrella(0, 0), 0);
        Check.same("back in 2", x.umbrella(0, 1), 2);
        Check.same("with its wear", x.umbrella(0, 2), 2);
        Check.same("waits no more", x.umbrella(0, 3), 0);
    }

    private static void cartHours() {
        UmbrellaLand x = new UmbrellaLand();
        x.build(0, 0);
        x.build(1, 0);
        x.bring(0, 10);
        int[] due = {9, 9, 9, 9, 9, 9, 8, 8, 8, 8, 8, 8, 7, 7, 7, 7, 7, 7, 6, 6, 6, 6, 6, 6, 5};
        for (int hour = 0; hour < due.length; hour++) {
            x.pass(1);
            Check.same("left behind the hour " + hour, x.shelter(0, 2), due[hour]);
            Check.same("carried behind the hour " + hour, x.count(10), 10 - due[hour]);
        }
        x.pass(50);
        Check.same("then both have as many", x.count(10), 5);
        x.bring(1, 1);
        x.pass(50);
        Check.same("1 more is not enough", x.count(10), 5);
        x.bring(1, 1);
        x.pass(6);
        Check.same("2 more are", x.count(10), 6);
        Check.same("carried back", x.shelter(0, 2), 6);
    }

    private static void cartTies() {
        UmbrellaLand x = new UmbrellaLand();
        x.build(0, 0);
        x.build(1, 0);
        x.build(2, 0);
        x.build(3, 0);
        x.bring(1, 3);
        x.bring(3, 3);
        x.pass(1);
        Check.same("from the smaller number", x.shelter(1, 2), 2);
        Check.same("to the smaller number", x.shelter(0, 2), 1);
        Check.same("the first one", x.umbrella(0, 1), 0);
        Check.same("it was not taken", x.umbrella(0, 5), -1);
        x.pass(6);
        Check.same("then from 3", x.shelter(3, 2), 2);
        Check.same("then to 2", x.shelter(2, 2), 1);
        x.pass(6);
        Check.same("then no more", x.count(10), 2);
        UmbrellaLand alone = new UmbrellaLand();
        alone.build(0, 0);
        alone.bring(0, 10);
        alone.pass(24);
        Check.same("one shelter alone", alone.count(10), 0);
    }

    private static void cartTakesTheLeastWorn() {
        UmbrellaLand x = pair(1, 1, 3, 9);
        x.setRain(1, 5);
        x.setRain(3, 5);
        x.pass(4);
        Check.same("0 is worn", x.umbrella(0, 2), 10);
        x.bring(0, 1);
        x.pass(3);
        Check.same("1 is carried", x.umbrella(1, 1), 1);
        Check.same("0 stays", x.umbrella(0, 1), 0);
    }

    private static void decreeLower() {
        UmbrellaLand x = pair(0, 1, 12, 9);
        x.setRain(1, 1);
        x.pass(23);
        Check.same("demand ahead of the decree", x.shelter(0, 1), 5);
        x.pass(1);
        Check.same("demand 1 less", x.shelter(0, 1), 4);
        Check.same("nobody was refused in 1", x.shelter(1, 1), 5);
        x.pass(96);
        Check.same("demand 5 less", x.shelter(0, 1), 0);
        x.pass(24);
        Check.same("at least 0", x.shelter(0, 1), 0);
        x.setDemand(0, 3);
        x.setRain(1, 0);
        x.pass(48);
        Check.same("nobody was refused in 0", x.shelter(0, 1), 3);
    }

    /** Three citizens from 0 forget all; a fourth one is refused there. */
    private static void decreeHigher() {
        UmbrellaLand x = pair(2, 1, 12, 1);
        x.addCitizen(0, 1, 1, 12, 1);
        x.addCitizen(0, 1, 1, 12, 1);
        x.setDemand(0, 0);
        x.setRain(1, 1);
        x.bring(1, 2);
        x.pass(23);
        Check.same("two were forgotten", x.shelter(0, 5), 2);
        Check.same("one was refused", x.shelter(0, 6), 1);
        Check.same("demand ahead of the decree", x.shelter(0, 1), 0);
        x.pass(1);
        Check.same("demand 1 greater", x.shelter(0, 1), 1);
        Check.same("where they were forgotten it stays", x.shelter(1, 1), 5);
        UmbrellaLand y = twoForgetfulAtTen();
        y.pass(24);
        Check.same("two were forgotten with demand 10", y.shelter(0, 5), 2);
        Check.same("at most 10", y.shelter(0, 1), 10);
    }

    private static UmbrellaLand twoForgetfulAtTen() {
        UmbrellaLand x = pair(4, 1, 12, 1);
        x.addCitizen(0, 1, 1, 12, 1);
        x.setRain(1, 1);
        x.pass(2);
        UmbrellaLand y = pair(4, 1, 12, 1);
        y.addCitizen(0, 1, 1, 12, 1);
        y.setRain(1, 1);
        y.pass(2);
        Check.same("the same runs answer the same", x.digest(), y.digest());
        y.setDemand(0, 10);
        return y;
    }

    private static void decreeOfOneForgotten() {
        UmbrellaLand x = pair(1, 1, 12, 1);
        x.addCitizen(0, 1, 1, 12, 1);
        x.setRain(1, 1);
        x.pass(24);
        Check.same("one was forgotten", x.shelter(0, 5), 1);
        Check.same("one was refused", x.shelter(0, 6), 1);
        Check.same("the demand stays", x.shelter(0, 1), 5);
    }

    private static void decreeOfHour23() {
        UmbrellaLand x = pair(0, 23, 12, 9);
        x.setRain(23, 1);
        x.pass(23);
        Check.same("not yet refused", x.shelter(0, 6), 0);
        x.pass(1);
        Check.same("refused in the hour 23", x.shelter(0, 6), 1);
        Check.same("counts for this day", x.shelter(0, 1), 4);
        x.setRain(23, 0);
        x.pass(24);
        Check.same("and not for the next", x.shelter(0, 1), 4);
    }

    /** One is forgotten on each of two days, which is no two on one day. */
    private static void decreeForgetsTheDay() {
        UmbrellaLand x = pair(2, 1, 12, 1);
        x.setDemand(0, 0);
        x.setDemand(1, 0);
        x.setRain(1, 1);
        x.pass(24);
        Check.same("one on the first day", x.shelter(0, 5), 1);
        x.pass(24);
        Check.same("another one on the second", x.shelter(0, 5), 2);
        Check.same("the demand stays 0", x.shelter(0, 1), 0);
    }
}
