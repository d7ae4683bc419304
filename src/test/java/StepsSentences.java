/** The six steps of an hour. */
final class StepsSentences {
    private StepsSentences() {
    }

    // ---- step 1: what is forgotten or broken comes back

    @Sentence(of = "Step 1", says = "each has an hour less to wait; if none is left, a forgotten one is in the shelter")
    static void forgottenWaits() {
        UmbrellaLand x = Lands.commuter(1, 1, 0);
        Lands.walk(x);
        Lands.rain(x, 0, 1, 3);
        for (int left = 24; left >= 1; left--) {
            Check.same("still forgotten", x.umbrella(0, 0), 2);
            Check.same("nowhere", x.umbrella(0, 1), -1);
            Check.same("hours left", x.umbrella(0, 3), left);
            x.pass(1);
        }
        Check.same("in a shelter", x.umbrella(0, 0), 0);
        Check.same("in 0", x.umbrella(0, 1), 0);
        Check.same("waits no more", x.umbrella(0, 3), 0);
        Check.same("with its wear", x.umbrella(0, 2), 1);
        x.pass(1);
        Check.same("not less than none", x.umbrella(0, 3), 0);
    }

    @Sentence(of = "Step 1", says = "from which it was taken last")
    static void forgottenComesBackWhereTakenLast() {
        UmbrellaLand x = Lands.commuter(2, 1, 0);
        Lands.walk(x);
        Lands.walk(x);
        Lands.rain(x, 0, 1, 3);
        Check.same("taken from 0, then from 1, then forgotten", x.umbrella(0, 0), 2);
        Check.same("taken last from 1", x.umbrella(0, 5), 1);
        x.pass(24);
        Check.same("in a shelter", x.umbrella(0, 0), 0);
        Check.same("neither where it was taken first nor where it was forgotten", x.umbrella(0, 1), 1);
        UmbrellaLand y = Lands.shelters(0, 10, 20);
        y.bring(2, 1);
        y.addCitizen(2, 1, 1, 3, 1);
        y.setRain(1, 1);
        y.pass(2);
        y.setRain(1, 0);
        y.pass(24);
        Check.same("also in the last shelter", y.umbrella(0, 1), 2);
    }

    @Sentence(of = "Step 1", says = "a broken one in the shelter 0, with the wear 0")
    static void brokenWaits() {
        UmbrellaLand x = Lands.shelters(0, 40);
        x.bring(1, 1);
        x.addCitizen(1, 0, 1, 12, 9);
        Lands.rainFrom(x, 1, 9, 9, 9, 9);
        x.pass(5);
        Lands.rainFrom(x, 1, 0, 0, 0, 0);
        for (int left = 12; left >= 1; left--) {
            Check.same("still broken", x.umbrella(0, 0), 3);
            Check.same("nowhere", x.umbrella(0, 1), -1);
            Check.same("hours left", x.umbrella(0, 3), left);
            Check.same("the wear stays", x.umbrella(0, 2), 36);
            x.pass(1);
        }
        Check.same("in a shelter", x.umbrella(0, 0), 0);
        Check.same("not where it was taken, but in 0", x.umbrella(0, 1), 0);
        Check.same("waits no more", x.umbrella(0, 3), 0);
        Check.same("without wear", x.umbrella(0, 2), 0);
        Check.same("taken last from 1 all the same", x.umbrella(0, 5), 1);
    }

    @Sentence(of = "Step 1", says = "Umbrellas that are forgotten or broken")
    static void onlyThoseWait() {
        UmbrellaLand x = Lands.shelters(0, 99);
        x.bring(0, 2);
        x.addCitizen(0, 1, 1, 12, 9);
        x.setRain(1, 1);
        for (int hour = 0; hour < 9; hour++) {
            x.pass(1);
            Check.same("one in a hand or a shelter does not wait", x.umbrella(0, 3), 0);
            Check.same("nor does one that is never taken", x.umbrella(1, 3), 0);
        }
        UmbrellaLand y = Lands.shelters(0, 10);
        y.pass(1);
        y.bring(0, 10);
        for (int i = 0; i < 10; i++) {
            y.addCitizen(0, 1, 1, 3, 1);
        }
        y.setRain(1, 1);
        y.pass(1);
        Check.same("all 10 are forgotten", y.count(6), 10);
        y.pass(23);
        Check.same("all 10 still wait", y.count(6), 10);
        y.setRain(1, 0);
        y.pass(1);
        Check.same("all 10 are back at once", y.count(4), 10);
    }

    // ---- step 2: who leaves, and what is taken

    @Sentence(of = "Step 2", says = "Citizens who are in a shelter")
    static void whoWalksDoesNotLeave() {
        UmbrellaLand x = Lands.shelters(0, 99);
        x.addCitizen(0, 1, 1, 4, 1);
        x.setRain(4, 2);
        x.pass(5);
        Check.same("on the way in the hour 4", x.citizen(0, 2), -1);
        Check.same("goes on", x.citizen(0, 3), 5);
        Check.same("is not refused", x.citizen(0, 9), 0);
        x.pass(5);
        Check.same("at work behind the hour 9", x.citizen(0, 2), 1);
        x.pass(18);
        Check.same("until the hour 4 of the next day", x.citizen(0, 2), 1);
        x.pass(1);
        Check.same("then on the way home", x.citizen(0, 2), -1);
        Check.same("refused there", x.shelter(1, 6), 1);
    }

    @Sentence(of = "Step 2", says = "in ascending order")
    static void smallerNumberLeavesFirst() {
        UmbrellaLand x = Lands.shelters(0, 40);
        for (int i = 0; i < 10; i++) {
            x.addCitizen(0, 1, 1, 12, 9);
        }
        x.pass(1);
        x.bring(0, 9);
        x.setRain(1, 1);
        Check.same("9 for 10", x.pass(1), 9);
        for (int i = 0; i < 9; i++) {
            Check.same("the umbrella of the citizen " + i, x.citizen(i, 4), i);
            Check.same("refused", x.citizen(i, 9), 0);
        }
        Check.same("the last one has none", x.citizen(9, 4), -1);
        Check.same("and is refused", x.citizen(9, 9), 1);
    }

    @Sentence(of = "Step 2", says = "whose hour to leave it is now (that of the home there, that of the work here)")
    static void hourOfTheShelter() {
        UmbrellaLand x = Lands.shelters(0, 10);
        x.addCitizen(0, 1, 5, 3, 1);
        int[] due = {0, 0, 0, 0, 0, 1, 1};
        for (int hour = 0; hour < due.length; hour++) {
            x.pass(1);
            Check.same("stays behind the hour " + hour, x.citizen(0, 2), due[hour]);
        }
        x.pass(20);
        Check.same("at work until the hour 27", x.citizen(0, 2), 1);
        x.pass(1);
        Check.same("at home behind it", x.citizen(0, 2), 0);
        UmbrellaLand late = Lands.shelters(0, 30);
        late.addCitizen(0, 1, 1, 3, 1);
        late.pass(4);
        Check.same("arrived in the hour 3", late.citizen(0, 2), 1);
        late.pass(23);
        Check.same("too late for that of this day, and the hour 25 is none of the work", late.citizen(0, 2), 1);
        late.pass(1);
        Check.same("leaves in the hour 27", late.citizen(0, 2), -1);
    }

    @Sentence(of = "Step 2", says = "if it rains in this hour of the day or in the next one")
    static void fearOfRain() {
        for (int rainy = 0; rainy < 24; rainy++) {
            boolean feared = rainy == 5 || rainy == 6;
            UmbrellaLand x = Lands.shelters(0, 10);
            x.bring(0, 1);
            x.addCitizen(0, 1, 5, 12, 9);
            x.setRain(rainy, 1);
            x.pass(5);
            Check.same("taken in the hour 5, rain in " + rainy, x.pass(1), feared ? 1 : 0);
            UmbrellaLand y = Lands.shelters(0, 10);
            y.addCitizen(0, 1, 5, 12, 9);
            y.setRain(rainy, 1);
            y.pass(6);
            Check.same("refused in the hour 5, rain in " + rainy, y.citizen(0, 9), feared ? 1 : 0);
            Check.same("refused there", y.shelter(0, 6), feared ? 1 : 0);
        }
    }

    @Sentence(of = "Step 2", says = "(behind 23 comes 0)")
    static void fearOfRainAtMidnight() {
        for (int rainy = 0; rainy < 24; rainy++) {
            UmbrellaLand x = Lands.shelters(0, 10);
            x.bring(0, 1);
            x.addCitizen(0, 1, 23, 12, 9);
            x.setRain(rainy, 9);
            x.pass(23);
            Check.same("taken in the hour 23, rain in " + rainy, x.pass(1), rainy == 23 || rainy == 0 ? 1 : 0);
            UmbrellaLand y = Lands.shelters(0, 10);
            y.bring(0, 1);
            y.addCitizen(0, 1, 0, 12, 9);
            y.setRain(rainy, 9);
            Check.same("taken in the hour 0, rain in " + rainy, y.pass(1), rainy <= 1 ? 1 : 0);
        }
    }

    @Sentence(of = "Step 2", says = "if the trust is at least the demand of the shelter")
    static void trustAgainstDemand() {
        UmbrellaLand lowest = Lands.commuter(1, 9, 9);
        UmbrellaLand highest = Lands.commuter(9, 9, 9);
        for (int i = 0; i < 6; i++) {
            Lands.walk(lowest);
            Lands.walk(highest);
        }
        Check.same("the lowest trust", lowest.citizen(0, 5), 0);
        Check.same("the highest trust", highest.citizen(0, 5), 10);
        for (int demand = 0; demand <= 10; demand++) {
            checkDemand(Lands.commuter(9, 9, 9), demand, demand <= 5);
        }
        lowest.setDemand(0, 1);
        Check.same("trust 0 with the demand 1", lowest.pass(22), 0);
        Check.same("refused", lowest.citizen(0, 9), 1);
        lowest.setDemand(1, 0);
        Check.same("trust 0 with the demand 0", lowest.pass(2), 1);
        highest.setDemand(0, 10);
        Check.same("trust 10 with the demand 10", highest.pass(22), 1);
    }

    private static void checkDemand(UmbrellaLand x, int demand, boolean trusted) {
        x.setDemand(0, demand);
        Check.same("trust 5 with the demand " + demand, x.pass(2), trusted ? 1 : 0);
        Check.same("refused", x.citizen(0, 9), trusted ? 0 : 1);
    }

    @Sentence(of = "Step 2", says = "and one is there")
    static void noneThere() {
        UmbrellaLand one = Lands.commuter(9, 1, 0);
        Check.same("one is there", one.pass(2), 1);
        UmbrellaLand none = Lands.commuter(9, 0, 1);
        Check.same("none is there, one elsewhere", none.pass(2), 0);
        Check.same("refused", none.citizen(0, 9), 1);
        UmbrellaLand gone = Lands.commuter(1, 1, 0);
        Lands.walk(gone);
        Check.same("the only one is forgotten", gone.umbrella(0, 0), 2);
        Check.same("a forgotten one is not there", gone.pass(2), 0);
        Check.same("refused at work", gone.shelter(1, 6), 1);
        UmbrellaLand inHand = Lands.shelters(0, 40);
        inHand.bring(0, 1);
        inHand.addCitizen(0, 1, 1, 12, 9);
        inHand.addCitizen(0, 1, 2, 12, 9);
        Lands.rain(inHand, 1, 1, 2);
        inHand.pass(3);
        Check.same("one in a hand is not there", inHand.citizen(1, 9), 1);
    }

    @Sentence(of = "Step 2", says = "the first one is taken; otherwise it is refused")
    static void takenOrRefused() {
        UmbrellaLand x = Lands.commuter(9, 2, 2);
        x.pass(2);
        Check.same("taken by the citizen", x.citizen(0, 7), 1);
        Check.same("taken from the shelter", x.shelter(0, 4), 1);
        Check.same("the first was taken", x.umbrella(0, 4), 1);
        Check.same("from 0", x.umbrella(0, 5), 0);
        Check.same("the second was not", x.umbrella(1, 4), 0);
        Check.same("none refused", x.shelter(0, 6), 0);
        UmbrellaLand y = Lands.commuter(9, 0, 0);
        y.setDemand(0, 10);
        Check.same("neither trust nor umbrella", y.pass(2), 0);
        Check.same("is refused once", y.citizen(0, 9), 1);
        Check.same("is refused once there", y.shelter(0, 6), 1);
        Check.same("none was taken", y.shelter(0, 4), 0);
        Check.same("no umbrella in the hand", y.citizen(0, 4), -1);
    }

    @Sentence(of = "Step 2", says = "Then one is on the way to the other one of both.")
    static void onTheWay() {
        UmbrellaLand x = Lands.shelters(0, 20, 40);
        x.pass(1);
        x.bring(1, 1);
        x.addCitizen(1, 2, 1, 5, 9);
        x.addCitizen(1, 0, 1, 5, 9);
        x.setRain(1, 1);
        x.pass(1);
        Check.same("with an umbrella", x.citizen(0, 2), -1);
        Check.same("refused", x.citizen(1, 2), -1);
        x.pass(1);
        Check.same("to the one work", x.citizen(0, 2), 2);
        Check.same("to the other work", x.citizen(1, 2), 0);
        x.pass(3);
        Check.same("in the dry, too", x.count(8), 2);
        x.pass(1);
        Check.same("one is back", x.citizen(0, 2), 1);
        Check.same("the other one, too", x.citizen(1, 2), 1);
    }

    // ---- step 3: who walks

    @Sentence(of = "Step 3", says = "Citizens on their way (also those of step 2), in ascending order, walk an hour")
    static void firstHourOfWalk() {
        UmbrellaLand x = Lands.shelters(0, 30);
        x.addCitizen(0, 1, 1, 12, 9);
        Lands.rainFrom(x, 1, 2, 3, 4, 5);
        int[] left = {0, 2, 1, 0, 0};
        int[] wet = {0, 2, 5, 9, 9};
        for (int hour = 0; hour < left.length; hour++) {
            x.pass(1);
            Check.same("hours left behind the hour " + hour, x.citizen(0, 3), left[hour]);
            Check.same("wet behind the hour " + hour, x.citizen(0, 6), wet[hour]);
        }
        UmbrellaLand all = Lands.shelters(0, 20);
        for (int i = 0; i < 10; i++) {
            all.addCitizen(0, 1, 1, 12, 9);
        }
        all.setRain(1, 3);
        all.pass(2);
        for (int i = 0; i < 10; i++) {
            Check.same("each of 10 has walked an hour", all.citizen(i, 3), 1);
            Check.same("and each is wet", all.citizen(i, 6), 3);
        }
        all.pass(1);
        Check.same("all 10 have arrived", all.shelter(1, 3), 10);
    }

    @Sentence(of = "Step 3", says = "if it rains now, an umbrella in hand has as much more wear as it rains")
    static void wear() {
        for (int rain = 0; rain <= 9; rain++) {
            UmbrellaLand x = Lands.shelters(0, 10);
            x.bring(0, 1);
            x.addCitizen(0, 1, 1, 12, 9);
            x.setRain(1, rain);
            x.setRain(2, 1);
            x.pass(2);
            Check.same("taken for the next hour's rain, too", x.umbrella(0, 4), 1);
            Check.same("worn by the rain of this hour", x.umbrella(0, 2), rain);
            Check.same("and dry", x.citizen(0, 6), 0);
            x.pass(1);
            Check.same("no more wear in the shelter", x.umbrella(0, 2), rain);
        }
    }

    /** An umbrella with this wear, 18 to 27, is in the hand of citizen 0, who walks on in the hours 4 and 5. */
    private static UmbrellaLand wornInHand(int wear) {
        UmbrellaLand x = Lands.shelters(0, 50);
        x.bring(0, 1);
        x.addCitizen(0, 1, 1, 12, 1);
        Lands.rainFrom(x, 1, 9, 9, wear - 18);
        x.pass(4);
        Check.same("worn ahead of the hour 4", x.umbrella(0, 2), wear);
        return x;
    }

    @Sentence(of = "Step 3", says = "if this is 30 or more then, it breaks")
    static void breaking() {
        for (int wear = 18; wear <= 27; wear++) {
            for (int rain = 0; rain <= 9; rain++) {
                UmbrellaLand x = wornInHand(wear);
                x.setRain(4, rain);
                x.pass(1);
                String call = "wear " + wear + " and rain " + rain;
                Check.same(call + ": the state", x.umbrella(0, 0), wear + rain >= 30 ? 3 : 1);
                Check.same(call + ": the wear", x.umbrella(0, 2), wear + rain);
                Check.same(call + ": in the hand", x.citizen(0, 4), wear + rain >= 30 ? -1 : 0);
            }
        }
        UmbrellaLand y = wornInHand(27);
        y.setRain(4, 2);
        y.pass(1);
        Check.same("29 does not break", y.umbrella(0, 0), 1);
        y.setRain(5, 1);
        y.pass(1);
        Check.same("30 breaks in the next hour", y.umbrella(0, 0), 3);
    }

    @Sentence(of = "Step 3", says = "(and waits 12 hours, with the wear that it has; it still kept dry)")
    static void broken() {
        UmbrellaLand x = wornInHand(21);
        x.setRain(4, 9);
        x.setRain(5, 4);
        x.pass(1);
        Check.same("waits", x.umbrella(0, 3), 12);
        Check.same("with the wear of 30", x.umbrella(0, 2), 30);
        Check.same("it still kept dry", x.citizen(0, 6), 0);
        x.pass(1);
        Check.same("then it does not", x.citizen(0, 6), 4);
        Check.same("11 hours are left", x.umbrella(0, 3), 11);
        UmbrellaLand y = wornInHand(27);
        y.setRain(4, 9);
        y.pass(1);
        Check.same("with the wear of 36", y.umbrella(0, 2), 36);
        Check.same("it kept dry, too", y.citizen(0, 6), 0);
    }

    @Sentence(of = "Step 3", says = "without an umbrella one is as much wetter as it rains")
    static void wet() {
        for (int rain = 0; rain <= 9; rain++) {
            UmbrellaLand x = Lands.shelters(0, 20);
            x.addCitizen(0, 1, 1, 12, 9);
            x.setRain(1, rain);
            x.pass(2);
            Check.same("wet in the rain " + rain, x.citizen(0, 6), rain);
            x.setRain(2, 9);
            x.pass(1);
            Check.same("wetter by 9", x.citizen(0, 6), rain + 9);
            x.setRain(3, 9);
            x.pass(1);
            Check.same("not in a shelter", x.citizen(0, 6), rain + 9);
        }
    }

    @Sentence(of = "Step 3", says = "(Whose umbrella broke has none at the end of the walk: the trust stays.)")
    static void arrivingWithoutTheBrokenOne() {
        for (int forgets = 1; forgets <= 2; forgets++) {
            UmbrellaLand x = Lands.shelters(0, 40);
            x.bring(0, 1);
            x.addCitizen(0, 1, 1, 12, forgets);
            Lands.rainFrom(x, 1, 9, 9, 9, 3);
            x.pass(5);
            Check.same("broken in the last hour", x.umbrella(0, 0), 3);
            checkArrivedWithNone(x);
            UmbrellaLand y = Lands.shelters(0, 50);
            y.bring(0, 1);
            y.addCitizen(0, 1, 1, 12, forgets);
            Lands.rainFrom(y, 1, 9, 9, 9, 3);
            y.pass(6);
            Check.same("broken in the last hour but one", y.umbrella(0, 0), 3);
            checkArrivedWithNone(y);
        }
    }

    private static void checkArrivedWithNone(UmbrellaLand x) {
        Check.same("arrived", x.citizen(0, 2), 1);
        Check.same("with none", x.citizen(0, 4), -1);
        Check.same("the trust stays", x.citizen(0, 5), 5);
        Check.same("none is forgotten by the citizen", x.citizen(0, 8), 0);
        Check.same("nor from the shelter", x.shelter(0, 5), 0);
        Check.same("none stands at the end", x.shelter(1, 2), 0);
    }

    @Sentence(of = "Step 3", says = "If the walk is at its end, one is in the shelter to which one went")
    static void endOfWalk() {
        UmbrellaLand x = Lands.shelters(0, 30);
        x.bring(0, 1);
        x.addCitizen(0, 1, 1, 12, 9);
        x.setRain(1, 1);
        x.pass(3);
        Check.same("an hour is left", x.citizen(0, 3), 1);
        Check.same("on the way", x.citizen(0, 2), -1);
        Check.same("the umbrella is in the hand", x.umbrella(0, 0), 1);
        x.pass(1);
        Check.same("none is left", x.citizen(0, 3), 0);
        Check.same("there", x.citizen(0, 2), 1);
        Check.same("the umbrella is in the shelter", x.umbrella(0, 0), 0);
        Check.same("in the same", x.umbrella(0, 1), 1);
        Check.same("no more in the hand", x.citizen(0, 4), -1);
    }

    @Sentence(of = "Step 3", says = "can be divided by that which the citizen forgets, it is forgotten")
    static void forgetting() {
        for (int forgets = 1; forgets <= 9; forgets++) {
            UmbrellaLand x = Lands.commuter(forgets, 20, 20);
            for (int taken = 1; taken <= 20; taken++) {
                Lands.walk(x);
                Check.same("taken", x.citizen(0, 7), taken);
                Check.same("forgets " + forgets + ", taken " + taken, x.citizen(0, 8), taken / forgets);
            }
            Check.same("forgotten from both", x.shelter(0, 5) + x.shelter(1, 5), 20 / forgets);
        }
    }

    @Sentence(of = "Step 3", says = "if the number of umbrellas that this one has taken in all")
    static void forgettingBehindABrokenOne() {
        UmbrellaLand x = Lands.shelters(0, 40);
        x.bring(0, 1);
        x.bring(1, 1);
        x.addCitizen(0, 1, 1, 12, 2);
        Lands.rainFrom(x, 1, 9, 9, 9, 9);
        x.setRain(12, 1);
        x.pass(12);
        Check.same("the first one broke", x.umbrella(0, 0), 3);
        x.pass(4);
        Check.same("the broken one is the first, the next one the second", x.citizen(0, 8), 1);
        Check.same("the next one is forgotten", x.umbrella(1, 0), 2);
        UmbrellaLand two = Lands.commuter(2, 20, 20);
        two.addCitizen(0, 1, 1, 3, 2);
        Lands.walk(two);
        Check.same("those that another one took do not count", two.count(6), 0);
    }

    @Sentence(of = "Step 3", says = "(and waits 24 hours)")
    static void forgottenForADay() {
        UmbrellaLand x = Lands.commuter(1, 1, 0);
        Lands.walk(x);
        Check.same("forgotten", x.umbrella(0, 0), 2);
        Check.same("waits", x.umbrella(0, 3), 24);
        Check.same("with nobody", x.umbrella(0, 1), -1);
        Check.same("in no shelter", x.shelter(0, 2) + x.shelter(1, 2), 0);
        Check.same("in no hand", x.citizen(0, 4), -1);
    }

    @Sentence(of = "Step 3", says = "the trust is 2 less (at least 0)")
    static void trustFalls() {
        UmbrellaLand x = Lands.commuter(1, 9, 9);
        for (int due : new int[] {3, 1, 0, 0, 0}) {
            Lands.walk(x);
            Check.same("trust of who forgets each", x.citizen(0, 5), due);
        }
        UmbrellaLand y = Lands.commuter(2, 9, 9);
        for (int due : new int[] {6, 4, 5, 3, 4, 2, 3, 1, 2, 0, 1, 0, 1, 0}) {
            Lands.walk(y);
            Check.same("trust of who forgets each second", y.citizen(0, 5), due);
        }
    }

    @Sentence(of = "Step 3", says = "otherwise it is in the shelter, and the trust is 1 more (at most 10)")
    static void trustGrows() {
        UmbrellaLand x = Lands.commuter(9, 9, 9);
        for (int due : new int[] {6, 7, 8, 9, 10, 10, 10, 10, 8, 9, 10, 10}) {
            Lands.walk(x);
            Check.same("trust of who forgets each ninth", x.citizen(0, 5), due);
        }
        UmbrellaLand dry = Lands.commuter(9, 9, 9);
        Lands.rain(dry, 0, 1, 3);
        Lands.walk(dry);
        Check.same("the trust of who needs none stays", dry.citizen(0, 5), 5);
    }

    // ---- step 4: the cart

    @Sentence(of = "Step 4", says = "in the hours 0, 6, 12 and 18 of the day")
    static void cartHours() {
        UmbrellaLand x = Lands.shelters(0, 10);
        Lands.bring(x, 0, 40);
        int carried = 0;
        for (int hour = 0; hour < 72; hour++) {
            int ofDay = hour % 24;
            carried += ofDay == 0 || ofDay == 6 || ofDay == 12 || ofDay == 18 ? 1 : 0;
            x.pass(1);
            Check.same("carried behind the hour " + hour, x.count(10), carried);
            Check.same("in 1 behind the hour " + hour, x.shelter(1, 2), carried);
        }
    }

    @Sentence(of = "Step 4", says = "from the shelter with the most umbrellas (of several the one with the smallest number)")
    static void cartFrom() {
        UmbrellaLand x = Lands.shelters(0, 10, 20, 30);
        x.bring(0, 2);
        x.bring(2, 3);
        x.bring(3, 3);
        x.pass(1);
        checkStanding(x, 2, 1, 2, 3);
        UmbrellaLand y = Lands.shelters(0, 10, 20, 30);
        y.bring(1, 2);
        y.bring(3, 3);
        y.bring(0, 2);
        y.bring(2, 1);
        y.pass(1);
        checkStanding(y, 2, 2, 2, 2);
    }

    private static void checkStanding(UmbrellaLand x, int... due) {
        for (int i = 0; i < due.length; i++) {
            Check.same("umbrellas in the shelter " + i, x.shelter(i, 2), due[i]);
        }
    }

    @Sentence(of = "Step 4", says = "the first one is carried")
    static void cartTakesFirst() {
        UmbrellaLand x = Lands.commuter(9, 1, 1);
        Lands.walk(x);
        Lands.walk(x);
        Check.same("0 and 1 are worn by 1", x.umbrella(0, 2) + x.umbrella(1, 2), 2);
        x.bring(1, 2);
        x.pass(3);
        Check.same("2, the least worn of the smallest number, is carried", x.umbrella(2, 1), 0);
        Check.same("0 stays", x.umbrella(0, 1), 1);
        Check.same("3 stays", x.umbrella(3, 1), 1);
        Check.same("being carried is no taking", x.umbrella(2, 4), 0);
        Check.same("from nowhere", x.umbrella(2, 5), -1);
        Check.same("nor wear", x.umbrella(2, 2), 0);
        Check.same("nor is it taken from the shelter", x.shelter(1, 4), 1);
    }

    @Sentence(of = "Step 4", says = "to that with the fewest (likewise)")
    static void cartTo() {
        UmbrellaLand x = Lands.shelters(0, 10, 20, 30);
        x.bring(0, 4);
        x.bring(1, 2);
        x.pass(1);
        checkStanding(x, 3, 2, 1, 0);
        x.pass(6);
        checkStanding(x, 2, 2, 1, 1);
        UmbrellaLand y = Lands.shelters(0, 10, 20, 30, 40, 50, 60, 70);
        for (int i = 0; i < 7; i++) {
            y.bring(i, 5);
        }
        y.bring(7, 3);
        y.pass(1);
        checkStanding(y, 4, 5, 5, 5, 5, 5, 5, 4);
    }

    @Sentence(of = "Step 4", says = "if these are fewer by 2 or more")
    static void cartDifference() {
        for (int more = 0; more <= 10; more++) {
            UmbrellaLand x = Lands.shelters(0, 10);
            Lands.bring(x, 0, 3);
            Lands.bring(x, 1, 3 + more);
            x.pass(1);
            Check.same("carried with " + more + " more", x.count(10), more >= 2 ? 1 : 0);
            checkStanding(x, more >= 2 ? 4 : 3, more >= 2 ? 2 + more : 3 + more);
        }
    }

    @Sentence(of = "Step 4", says = "The cart")
    static void cartWithoutWork() {
        UmbrellaLand none = new UmbrellaLand();
        none.pass(100);
        Check.same("no shelter", none.count(10), 0);
        UmbrellaLand empty = Lands.shelters(0, 10, 20, 30, 40, 50, 60, 70);
        empty.pass(100);
        Check.same("no umbrella", empty.count(10), 0);
        UmbrellaLand alone = Lands.shelters(50);
        Lands.bring(alone, 0, 40);
        alone.pass(100);
        Check.same("one shelter", alone.count(10), 0);
        UmbrellaLand even = Lands.shelters(0, 10, 20, 30, 40, 50, 60, 70);
        for (int i = 0; i < 8; i++) {
            even.bring(i, 5);
        }
        even.pass(100);
        Check.same("5 in each of 8", even.count(10), 0);
    }

    // ---- step 5: decrees

    /** So many citizens forget one from the shelter 0 in the hour 1, and so many more are refused there. */
    private static UmbrellaLand forgetful(int forgetting, int refused, int demand) {
        UmbrellaLand x = Lands.shelters(0, 10);
        x.pass(1);
        if (forgetting > 0) {
            x.bring(0, forgetting);
        }
        for (int i = 0; i < forgetting + refused; i++) {
            x.addCitizen(0, 1, 1, 12, 1);
        }
        x.setRain(1, 1);
        x.pass(1);
        x.setRain(1, 0);
        Check.same("forgotten from 0", x.shelter(0, 5), forgetting);
        Check.same("refused in 0", x.shelter(0, 6), refused);
        x.setDemand(0, demand);
        x.setDemand(1, demand);
        return x;
    }

    @Sentence(of = "Step 5", says = "in the hour 23 of the day")
    static void decreeHour() {
        UmbrellaLand more = forgetful(2, 0, 5);
        UmbrellaLand less = forgetful(0, 1, 5);
        for (int hour = 2; hour < 48; hour++) {
            more.pass(1);
            less.pass(1);
            Check.same("demand behind the hour " + hour, more.shelter(0, 1), hour < 23 ? 5 : 6);
            Check.same("demand behind the hour " + hour, less.shelter(0, 1), hour < 23 ? 5 : 4);
        }
        UmbrellaLand late = Lands.shelters(0, 10);
        late.addCitizen(0, 1, 1, 12, 1);
        late.setDemand(0, 8);
        late.setRain(1, 1);
        for (int day = 0; day < 4; day++) {
            late.pass(23);
            Check.same("demand ahead of the hour 23", late.shelter(0, 1), 8 - day);
            late.pass(1);
            Check.same("demand behind the hour 23", late.shelter(0, 1), 7 - day);
        }
    }

    @Sentence(of = "Step 5", says = "a shelter from which 2 or more umbrellas were forgotten on this day has a demand 1 greater")
    static void decreeGreater() {
        for (int forgotten = 0; forgotten <= 10; forgotten++) {
            UmbrellaLand x = forgetful(forgotten, 0, 5);
            x.pass(22);
            Check.same("demand with " + forgotten + " forgotten", x.shelter(0, 1), forgotten >= 2 ? 6 : 5);
            Check.same("demand where they were to be carried", x.shelter(1, 1), 5);
        }
        UmbrellaLand y = forgetful(2, 3, 5);
        y.pass(22);
        Check.same("also where somebody was refused", y.shelter(0, 1), 6);
    }

    @Sentence(of = "Step 5", says = "(at most 10)")
    static void decreeAtMost() {
        int[] demands = {0, 8, 9, 10};
        int[] due = {1, 9, 10, 10};
        for (int i = 0; i < demands.length; i++) {
            UmbrellaLand x = forgetful(2, 0, demands[i]);
            x.pass(22);
            Check.same("demand from " + demands[i], x.shelter(0, 1), due[i]);
        }
    }

    @Sentence(of = "Step 5", says = "one from which none was, and where somebody was refused on this day, has one 1 less")
    static void decreeLess() {
        for (int refused = 0; refused <= 10; refused++) {
            UmbrellaLand x = forgetful(0, refused, 5);
            x.pass(22);
            Check.same("demand with " + refused + " refused", x.shelter(0, 1), refused >= 1 ? 4 : 5);
            Check.same("demand where nobody was", x.shelter(1, 1), 5);
        }
        UmbrellaLand y = forgetful(1, 3, 5);
        y.pass(22);
        Check.same("1 forgotten and 3 refused", y.shelter(0, 1), 5);
        y.setDemand(0, 9);
        y.setRain(1, 1);
        y.pass(24);
        Check.same("none forgotten on the next day", y.shelter(0, 5), 1);
        Check.same("but all 4 refused", y.shelter(0, 6), 7);
        Check.same("so that the demand is 1 less then", y.shelter(0, 1), 8);
    }

    @Sentence(of = "Step 5", says = "(at least 0)")
    static void decreeAtLeast() {
        int[] demands = {0, 1, 2, 10};
        int[] due = {0, 0, 1, 9};
        for (int i = 0; i < demands.length; i++) {
            UmbrellaLand x = forgetful(0, 1, demands[i]);
            x.pass(22);
            Check.same("demand from " + demands[i], x.shelter(0, 1), due[i]);
        }
    }

    @Sentence(of = "Step 5", says = "were forgotten on this day")
    static void decreeOnTheDayOfForgetting() {
        UmbrellaLand x = Lands.shelters(0, 20);
        x.addCitizen(0, 1, 23, 12, 1);
        x.addCitizen(0, 1, 23, 12, 1);
        x.pass(22);
        x.bring(0, 2);
        x.setRain(23, 1);
        x.pass(2);
        Check.same("both are in hands at the end of the day", x.count(5), 2);
        Check.same("nothing is forgotten on it", x.shelter(0, 1), 0);
        x.setRain(23, 0);
        x.pass(1);
        Check.same("both are forgotten in the hour 24", x.count(6), 2);
        x.pass(22);
        Check.same("not yet", x.shelter(0, 1), 0);
        x.pass(1);
        Check.same("the next day's decree", x.shelter(0, 1), 1);
        x.pass(24);
        Check.same("and no other one's", x.shelter(0, 1), 1);
        UmbrellaLand y = Lands.shelters(0, 10);
        y.addCitizen(0, 1, 1, 12, 1);
        y.setRain(1, 1);
        for (int day = 1; day <= 3; day++) {
            y.pass(1);
            y.bring(0, 1);
            y.pass(23);
            Check.same("one forgotten on each day", y.shelter(0, 5), day);
            Check.same("is never 2 on one", y.shelter(0, 1), 0);
        }
    }

    // ---- step 6: the hour ends

    @Sentence(of = "Step 6", says = "The hour is 1 greater.")
    static void hourIsGreater() {
        UmbrellaLand x = new UmbrellaLand();
        for (int hour = 1; hour <= 60; hour++) {
            x.pass(1);
            Check.same("the hour", x.count(0), hour);
        }
        x.pass(100);
        Check.same("the hour is not that of the day", x.count(0), 160);
    }

    @Sentence(of = "Step 6", says = "(A day is its hours 0 to 23; what happened in the hour 23, ahead of step 5, counts for it.)")
    static void lastHourOfDay() {
        UmbrellaLand refused = Lands.shelters(0, 10);
        refused.setDemand(0, 5);
        refused.addCitizen(0, 1, 23, 12, 1);
        refused.setRain(23, 1);
        refused.pass(24);
        Check.same("refused in the hour 23", refused.shelter(0, 1), 4);
        refused.setRain(23, 0);
        refused.pass(24);
        Check.same("not for the next day, too", refused.shelter(0, 1), 4);
        UmbrellaLand forgotten = Lands.shelters(0, 10);
        forgotten.addCitizen(0, 1, 23, 12, 1);
        forgotten.addCitizen(0, 1, 23, 12, 1);
        forgotten.pass(23);
        forgotten.bring(0, 2);
        forgotten.setRain(23, 1);
        forgotten.pass(1);
        Check.same("forgotten in the hour 23", forgotten.shelter(0, 1), 1);
        forgotten.setRain(23, 0);
        forgotten.pass(24);
        Check.same("nor these", forgotten.shelter(0, 1), 1);
    }

    @Sentence(of = "Step 6", says = "A day is its hours 0 to 23")
    static void firstHourOfDay() {
        UmbrellaLand x = Lands.shelters(0, 10);
        x.setDemand(0, 5);
        x.addCitizen(0, 1, 0, 12, 1);
        x.setRain(0, 1);
        x.pass(24);
        Check.same("refused in the hour 0", x.shelter(0, 1), 4);
        x.pass(23);
        Check.same("refused in the hour 24, but not yet", x.shelter(0, 1), 4);
        x.setRain(0, 0);
        x.pass(1);
        Check.same("refused in the hour 24", x.shelter(0, 1), 3);
        x.pass(24);
        Check.same("nobody is refused on the third day", x.shelter(0, 1), 3);
        UmbrellaLand y = Lands.shelters(0, 10);
        y.addCitizen(0, 1, 23, 12, 1);
        y.addCitizen(0, 1, 0, 12, 1);
        y.pass(23);
        y.bring(0, 2);
        Lands.rain(y, 1, 23, 0);
        y.pass(2);
        Check.same("one is forgotten in the hour 23, one in the hour 24", y.shelter(0, 5), 2);
        Lands.rain(y, 0, 23, 0);
        y.pass(23);
        Check.same("these are on two days", y.shelter(0, 1), 0);
    }
}
