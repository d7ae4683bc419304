/** A republic of umbrellas. */
public final class UmbrellaLand {

    private static final int NONE = -1;

    private static final int MOST_SHELTERS = 8;
    private static final int MOST_UMBRELLAS = 40;
    private static final int MOST_CITIZENS = 10;
    private static final int MOST_PLACE = 99;
    private static final int MOST_DEMAND = 10;
    private static final int MOST_TRUST = 10;
    private static final int MOST_RAIN = 9;
    private static final int MOST_BROUGHT = 10;
    private static final int MOST_FORGETS = 9;

    private static final int DAY = 24;
    private static final int MOST_HOURS = 100;
    private static final int MOST_HOURS_OF_ADVICE = 24;
    private static final int MOST_HOURS_CARRIED = 200;
    private static final int HOURS_FORGOTTEN = 24;
    private static final int HOURS_BROKEN = 12;
    private static final int HOURS_BETWEEN_CARTS = 6;

    private static final int FIRST_TRUST = 5;
    private static final int WEAR_THAT_BREAKS = 30;
    private static final int PLACES_AN_HOUR = 10;
    private static final int MENDING_SHELTER = 0;

    private static final int IN_SHELTER = 0;
    private static final int IN_HAND = 1;
    private static final int FORGOTTEN = 2;
    private static final int BROKEN = 3;

    private static final int TELLS_OF_SHELTER = 8;
    private static final int TELLS_OF_UMBRELLA = 6;
    private static final int TELLS_OF_CITIZEN = 10;
    private static final int TELLS_OF_ALL = 11;
    private static final int FORESIGHTS = 5;

    private final Republic now;
    /** Kept for looking ahead, so that no call has to make a copy of its own. */
    private final Republic ahead;

    public UmbrellaLand() {
        now = new Republic();
        ahead = new Republic();
    }

    // ---- shelters, umbrellas, citizens

    public int build(int place, int demand) throws IllegalArgumentException, IllegalStateException {
        if (!isWithin(place, 0, MOST_PLACE) || !isWithin(demand, 0, MOST_DEMAND)) {
            throw new IllegalArgumentException("place is 0 to 99, demand 0 to 10");
        }
        if (now.shelterCount >= MOST_SHELTERS || now.isBuiltOn(place)) {
            throw new IllegalStateException("the place is taken, or there are 8 shelters");
        }
        return now.addShelter(place, demand);
    }

    public int bring(int shelter, int many)
            throws IndexOutOfBoundsException, IllegalArgumentException, IllegalStateException {
        checkShelter(shelter);
        if (!isWithin(many, 1, MOST_BROUGHT)) {
            throw new IllegalArgumentException("many is 1 to 10");
        }
        if (many > MOST_UMBRELLAS - now.umbrellaCount) {
            throw new IllegalStateException("there would be more than 40 umbrellas");
        }
        for (int i = 0; i < many; i++) {
            now.addUmbrella(shelter);
        }
        return now.umbrellaCount;
    }

    public int addCitizen(int home, int work, int leaves, int returns, int forgets)
            throws IndexOutOfBoundsException, IllegalArgumentException, IllegalStateException {
        checkShelter(home);
        checkShelter(work);
        if (home == work || leaves == returns) {
            throw new IllegalArgumentException("home and work differ, leaves and returns too");
        }
        if (!isHourOfDay(leaves) || !isHourOfDay(returns) || !isWithin(forgets, 1, MOST_FORGETS)) {
            throw new IllegalArgumentException("leaves and returns are 0 to 23, forgets is 1 to 9");
        }
        if (now.citizenCount >= MOST_CITIZENS) {
            throw new IllegalStateException("there are 10 citizens");
        }
        return now.addPerson(home, work, leaves, returns, forgets);
    }

    public int setRain(int hour, int rain) throws IndexOutOfBoundsException, IllegalArgumentException {
        checkHourOfDay(hour);
        if (!isWithin(rain, 0, MOST_RAIN)) {
            throw new IllegalArgumentException("rain is 0 to 9");
        }
        int before = now.rain[hour];
        now.rain[hour] = rain;
        return before;
    }

    public int setDemand(int shelter, int demand) throws IndexOutOfBoundsException, IllegalArgumentException {
        checkShelter(shelter);
        if (!isWithin(demand, 0, MOST_DEMAND)) {
            throw new IllegalArgumentException("demand is 0 to 10");
        }
        int before = now.shelters[shelter].demand;
        now.shelters[shelter].demand = demand;
        return before;
    }

    // ---- what is there

    public int shelter(int shelter, int what) throws IndexOutOfBoundsException {
        checkShelter(shelter);
        checkWhat(what, TELLS_OF_SHELTER);
        return now.tellShelter(shelter, what);
    }

    public int umbrella(int umbrella, int what) throws IndexOutOfBoundsException {
        checkUmbrella(umbrella);
        checkWhat(what, TELLS_OF_UMBRELLA);
        return now.umbrellas[umbrella].tell(what);
    }

    public int citizen(int citizen, int what) throws IndexOutOfBoundsException {
        checkCitizen(citizen);
        checkWhat(what, TELLS_OF_CITIZEN);
        return now.citizens[citizen].tell(what);
    }

    public int count(int what) throws IndexOutOfBoundsException {
        checkWhat(what, TELLS_OF_ALL);
        return now.tellAll(what);
    }

    // ---- hours

    public int pass(int hours) throws IllegalArgumentException {
        checkHours(hours, MOST_HOURS);
        return now.letGoBy(hours);
    }

    // ---- looking ahead

    public int foresee(int hours, int what) throws IllegalArgumentException, IndexOutOfBoundsException {
        checkHours(hours, MOST_HOURS);
        checkWhat(what, FORESIGHTS);
        ahead.becomeLike(now);
        ahead.letGoBy(hours);
        switch (what) {
            case 0:
                return ahead.wetOfAll();
            case 1:
                return ahead.umbrellasThatAre(IN_SHELTER);
            case 2:
                return ahead.umbrellasThatAre(FORGOTTEN);
            case 3:
                return ahead.umbrellasThatAre(BROKEN);
            default:
                return ahead.trustOfAll();
        }
    }

    public int advise(int hours) throws IllegalArgumentException, IllegalStateException {
        checkHours(hours, MOST_HOURS_OF_ADVICE);
        if (now.umbrellaCount >= MOST_UMBRELLAS) {
            throw new IllegalStateException("there are 40 umbrellas");
        }
        int best = NONE;
        int leastWet = wetAfter(hours, NONE);
        for (int i = 0; i < now.shelterCount; i++) {
            int wet = wetAfter(hours, i);
            if (wet < leastWet) {
                leastWet = wet;
                best = i;
            }
        }
        return best;
    }

    public boolean wouldGet(int citizen, int shelter) throws IndexOutOfBoundsException {
        checkCitizen(citizen);
        checkShelter(shelter);
        return now.citizens[citizen].trust >= now.shelters[shelter].demand
                && now.firstUmbrellaIn(shelter) != NONE;
    }

    public int lasts(int umbrella, int hour) throws IndexOutOfBoundsException {
        checkUmbrella(umbrella);
        checkHourOfDay(hour);
        if (now.umbrellas[umbrella].state == BROKEN) {
            return NONE;
        }
        int wear = now.umbrellas[umbrella].wear;
        for (int i = 0; i < MOST_HOURS_CARRIED; i++) {
            wear += now.rain[Math.floorMod(hour + i, DAY)];
            if (wear >= WEAR_THAT_BREAKS) {
                return i + 1;
            }
        }
        return NONE;
    }

    public double trust() {
        if (now.citizenCount == 0) {
            return 0.0;
        }
        return (double) now.trustOfAll() / (double) now.citizenCount;
    }

    public long digest() {
        long d = 569;
        for (int what = 0; what < TELLS_OF_ALL; what++) {
            d = d * 31 + now.tellAll(what);
        }
        for (int i = 0; i < DAY; i++) {
            d = d * 31 + now.rain[i];
        }
        for (int i = 0; i < now.shelterCount; i++) {
            for (int what = 0; what < TELLS_OF_SHELTER; what++) {
                d = d * 31 + now.tellShelter(i, what);
            }
        }
        for (int i = 0; i < now.umbrellaCount; i++) {
            for (int what = 0; what < TELLS_OF_UMBRELLA; what++) {
                d = d * 31 + now.umbrellas[i].tell(what);
            }
        }
        for (int i = 0; i < now.citizenCount; i++) {
            for (int what = 0; what < TELLS_OF_CITIZEN; what++) {
                d = d * 31 + now.citizens[i].tell(what);
            }
        }
        return d;
    }

    /** How wet all would be after these hours, with one more umbrella in the shelter unless it is NONE. */
    private int wetAfter(int hours, int shelter) {
        ahead.becomeLike(now);
        if (shelter != NONE) {
            ahead.addUmbrella(shelter);
        }
        ahead.letGoBy(hours);
        return ahead.wetOfAll();
    }

    private void checkShelter(int shelter) {
        if (!now.isShelter(shelter)) {
            throw new IndexOutOfBoundsException("no such shelter");
        }
    }

    private void checkUmbrella(int umbrella) {
        if (!now.isUmbrella(umbrella)) {
            throw new IndexOutOfBoundsException("no such umbrella");
        }
    }

    private void checkCitizen(int citizen) {
        if (!now.isCitizen(citizen)) {
            throw new IndexOutOfBoundsException("no such citizen");
        }
    }

    private static void checkWhat(int what, int many) {
        if (!isWithin(what, 0, many - 1)) {
            throw new IndexOutOfBoundsException("nothing is told by this number");
        }
    }

    private static void checkHourOfDay(int hour) {
        if (!isHourOfDay(hour)) {
            throw new IndexOutOfBoundsException("hour is 0 to 23");
        }
    }

    private static void checkHours(int hours, int most) {
        if (!isWithin(hours, 1, most)) {
            throw new IllegalArgumentException("hours is less than 1, or too many");
        }
    }

    private static boolean isHourOfDay(int hour) {
        return isWithin(hour, 0, DAY - 1);
    }

    private static boolean isWithin(int number, int least, int most) {
        return number >= least && number <= most;
    }

    /** A shelter, without what stands in it: that is told by the umbrellas and citizens. */
    private static final class Shelter {
        int place;
        int demand;
        int taken;
        int forgotten;
        int refused;
        int forgottenToday;
        int refusedToday;

        void open(int newPlace, int newDemand) {
            place = newPlace;
            demand = newDemand;
        }

        void becomeLike(Shelter other) {
            place = other.place;
            demand = other.demand;
            taken = other.taken;
            forgotten = other.forgotten;
            refused = other.refused;
            forgottenToday = other.forgottenToday;
            refusedToday = other.refusedToday;
        }

        void noteRefusal() {
            refused++;
            refusedToday++;
        }

        void noteForgotten() {
            forgotten++;
            forgottenToday++;
        }

        void endDay() {
            if (forgottenToday >= 2) {
                demand = Math.min(MOST_DEMAND, demand + 1);
            } else if (forgottenToday == 0 && refusedToday > 0) {
                demand = Math.max(0, demand - 1);
            }
            forgottenToday = 0;
            refusedToday = 0;
        }
    }

    private static final class Umbrella {
        int state;
        /** The number of the shelter or of the citizen, as the state says, or NONE. */
        int holder;
        int wear;
        int waits;
        int taken;
        int takenFrom;

        /** Sets every field, since looking ahead uses the same row more than once. */
        void beNewIn(int shelter) {
            wear = 0;
            taken = 0;
            takenFrom = NONE;
            standIn(shelter);
        }

        void becomeLike(Umbrella other) {
            state = other.state;
            holder = other.holder;
            wear = other.wear;
            waits = other.waits;
            taken = other.taken;
            takenFrom = other.takenFrom;
        }

        boolean standsIn(int shelter) {
            return state == IN_SHELTER && holder == shelter;
        }

        void standIn(int shelter) {
            state = IN_SHELTER;
            holder = shelter;
            waits = 0;
        }

        void goWith(int citizen) {
            takenFrom = holder;
            taken++;
            state = IN_HAND;
            holder = citizen;
        }

        void stayAway(int newState, int hours) {
            state = newState;
            holder = NONE;
            waits = hours;
        }

        void waitAnHour() {
            if (waits == 0) {
                return;
            }
            waits--;
            if (waits > 0) {
                return;
            }
            if (state == BROKEN) {
                wear = 0;
                standIn(MENDING_SHELTER);
            } else {
                standIn(takenFrom);
            }
        }

        int tell(int what) {
            switch (what) {
                case 0:
                    return state;
                case 1:
                    return holder;
                case 2:
                    return wear;
                case 3:
                    return waits;
                case 4:
                    return taken;
                default:
                    return takenFrom;
            }
        }
    }

    private static final class Citizen {
        int home;
        int work;
        int leaves;
        int returns;
        int forgets;
        int hoursOfWalk;
        /** The shelter, or NONE on the way. */
        int stays;
        int goal;
        int hoursToWalk;
        int inHand;
        int trust;
        int wet;
        int taken;
        int forgotten;
        int refused;

        void settle(int newHome, int newWork, int hours) {
            home = newHome;
            work = newWork;
            hoursOfWalk = hours;
            stays = newHome;
            goal = newHome;
            inHand = NONE;
            trust = FIRST_TRUST;
        }

        void becomeLike(Citizen other) {
            home = other.home;
            work = other.work;
            leaves = other.leaves;
            returns = other.returns;
            forgets = other.forgets;
            hoursOfWalk = other.hoursOfWalk;
            stays = other.stays;
            goal = other.goal;
            hoursToWalk = other.hoursToWalk;
            inHand = other.inHand;
            trust = other.trust;
            wet = other.wet;
            taken = other.taken;
            forgotten = other.forgotten;
            refused = other.refused;
        }

        boolean leavesAt(int hourOfDay) {
            return (stays == home && leaves == hourOfDay) || (stays == work && returns == hourOfDay);
        }

        void setOut() {
            goal = stays == home ? work : home;
            stays = NONE;
            hoursToWalk = hoursOfWalk;
        }

        boolean forgetsThisOne() {
            return forgets > 0 && taken % forgets == 0;
        }

        void noteForgotten() {
            forgotten++;
            trust = Math.max(0, trust - 2);
        }

        void noteBroughtBack() {
            trust = Math.min(MOST_TRUST, trust + 1);
        }

        int tell(int what) {
            switch (what) {
                case 0:
                    return home;
                case 1:
                    return work;
                case 2:
                    return stays;
                case 3:
                    return hoursToWalk;
                case 4:
                    return inHand;
                case 5:
                    return trust;
                case 6:
                    return wet;
                case 7:
                    return taken;
                case 8:
                    return forgotten;
                default:
                    return refused;
            }
        }
    }

    /** All that stands at one hour; every row is made at once and filled when it is needed. */
    private static final class Republic {
        final int[] rain = new int[DAY];
        final Shelter[] shelters = new Shelter[MOST_SHELTERS];
        final Umbrella[] umbrellas = new Umbrella[MOST_UMBRELLAS];
        final Citizen[] citizens = new Citizen[MOST_CITIZENS];
        int hour;
        int shelterCount;
        int umbrellaCount;
        int citizenCount;
        int carried;

        Republic() {
            for (int i = 0; i < MOST_SHELTERS; i++) {
                shelters[i] = new Shelter();
            }
            for (int i = 0; i < MOST_UMBRELLAS; i++) {
                umbrellas[i] = new Umbrella();
            }
            for (int i = 0; i < MOST_CITIZENS; i++) {
                citizens[i] = new Citizen();
            }
        }

        void becomeLike(Republic other) {
            System.arraycopy(other.rain, 0, rain, 0, DAY);
            hour = other.hour;
            shelterCount = other.shelterCount;
            umbrellaCount = other.umbrellaCount;
            citizenCount = other.citizenCount;
            carried = other.carried;
            for (int i = 0; i < shelterCount; i++) {
                shelters[i].becomeLike(other.shelters[i]);
            }
            for (int i = 0; i < umbrellaCount; i++) {
                umbrellas[i].becomeLike(other.umbrellas[i]);
            }
            for (int i = 0; i < citizenCount; i++) {
                citizens[i].becomeLike(other.citizens[i]);
            }
        }

        boolean isShelter(int number) {
            return number >= 0 && number < shelterCount;
        }

        boolean isUmbrella(int number) {
            return number >= 0 && number < umbrellaCount;
        }

        boolean isCitizen(int number) {
            return number >= 0 && number < citizenCount;
        }

        boolean isBuiltOn(int place) {
            for (int i = 0; i < shelterCount; i++) {
                if (shelters[i].place == place) {
                    return true;
                }
            }
            return false;
        }

        int addShelter(int place, int demand) {
            if (shelterCount >= MOST_SHELTERS) {
                return NONE;
            }
            shelters[shelterCount].open(place, demand);
            shelterCount++;
            return shelterCount - 1;
        }

        void addUmbrella(int shelter) {
            if (umbrellaCount < MOST_UMBRELLAS) {
                umbrellas[umbrellaCount].beNewIn(shelter);
                umbrellaCount++;
            }
        }

        int addPerson(int home, int work, int leaves, int returns, int forgets) {
            if (citizenCount >= MOST_CITIZENS) {
                return NONE;
            }
            Citizen added = citizens[citizenCount];
            added.settle(home, work, hoursBetween(home, work));
            added.leaves = leaves;
            added.returns = returns;
            added.forgets = forgets;
            citizenCount++;
            return citizenCount - 1;
        }

        private int hoursBetween(int one, int other) {
            if (!isShelter(one) || !isShelter(other)) {
                return 1;
            }
            return Math.max(1, Math.abs(shelters[one].place - shelters[other].place) / PLACES_AN_HOUR);
        }

        /** Returns how many umbrellas were taken in these hours. */
        int letGoBy(int hours) {
            int taken = 0;
            for (int i = 0; i < hours; i++) {
                int hourOfDay = Math.floorMod(hour, DAY);
                letUmbrellasWait();
                taken += letCitizensLeave(hourOfDay);
                letCitizensWalk(rain[hourOfDay]);
                if (hourOfDay % HOURS_BETWEEN_CARTS == 0) {
                    driveCart();
                }
                if (hourOfDay == DAY - 1) {
                    endDay();
                }
                hour++;
            }
            return taken;
        }

        private void letUmbrellasWait() {
            for (int i = 0; i < umbrellaCount; i++) {
                umbrellas[i].waitAnHour();
            }
        }

        private int letCitizensLeave(int hourOfDay) {
            boolean wanted = rain[hourOfDay] > 0 || rain[Math.floorMod(hourOfDay + 1, DAY)] > 0;
            int taken = 0;
            for (int i = 0; i < citizenCount; i++) {
                if (citizens[i].leavesAt(hourOfDay)) {
                    if (wanted && takeUmbrella(i)) {
                        taken++;
                    }
                    citizens[i].setOut();
                }
            }
            return taken;
        }

        /** Returns whether the citizen, who is one of ours, got an umbrella. */
        private boolean takeUmbrella(int number) {
            Citizen taker = citizens[number];
            if (!isShelter(taker.stays)) {
                return false;
            }
            Shelter here = shelters[taker.stays];
            int first = firstUmbrellaIn(taker.stays);
            if (taker.trust < here.demand || !isUmbrella(first)) {
                taker.refused++;
                here.noteRefusal();
                return false;
            }
            umbrellas[first].goWith(number);
            taker.inHand = first;
            taker.taken++;
            here.taken++;
            return true;
        }

        private void letCitizensWalk(int rainNow) {
            for (int i = 0; i < citizenCount; i++) {
                Citizen walker = citizens[i];
                if (walker.hoursToWalk > 0) {
                    meetRain(walker, rainNow);
                    walker.hoursToWalk--;
                    if (walker.hoursToWalk == 0) {
                        arrive(walker);
                    }
                }
            }
        }

        private void meetRain(Citizen walker, int rainNow) {
            if (!isUmbrella(walker.inHand)) {
                walker.wet += rainNow;
                return;
            }
            Umbrella carriedOne = umbrellas[walker.inHand];
            carriedOne.wear += rainNow;
            if (carriedOne.wear >= WEAR_THAT_BREAKS) {
                carriedOne.stayAway(BROKEN, HOURS_BROKEN);
                walker.inHand = NONE;
            }
        }

        private void arrive(Citizen walker) {
            walker.stays = walker.goal;
            if (!isUmbrella(walker.inHand)) {
                return;
            }
            Umbrella carriedOne = umbrellas[walker.inHand];
            walker.inHand = NONE;
            if (!walker.forgetsThisOne()) {
                carriedOne.standIn(walker.stays);
                walker.noteBroughtBack();
                return;
            }
            carriedOne.stayAway(FORGOTTEN, HOURS_FORGOTTEN);
            walker.noteForgotten();
            if (isShelter(carriedOne.takenFrom)) {
                shelters[carriedOne.takenFrom].noteForgotten();
            }
        }

        private void driveCart() {
            int fullest = 0;
            int emptiest = 0;
            for (int i = 1; i < shelterCount; i++) {
                if (umbrellasIn(i) > umbrellasIn(fullest)) {
                    fullest = i;
                }
                if (umbrellasIn(i) < umbrellasIn(emptiest)) {
                    emptiest = i;
                }
            }
            int first = firstUmbrellaIn(fullest);
            if (isUmbrella(first) && umbrellasIn(fullest) - umbrellasIn(emptiest) >= 2) {
                umbrellas[first].standIn(emptiest);
                carried++;
            }
        }

        private void endDay() {
            for (int i = 0; i < shelterCount; i++) {
                shelters[i].endDay();
            }
        }

        /** The number of the first umbrella there, or NONE. */
        int firstUmbrellaIn(int shelter) {
            int first = NONE;
            int leastWear = WEAR_THAT_BREAKS;
            for (int i = 0; i < umbrellaCount; i++) {
                if (umbrellas[i].standsIn(shelter) && umbrellas[i].wear < leastWear) {
                    first = i;
                    leastWear = umbrellas[i].wear;
                }
            }
            return first;
        }

        private int umbrellasIn(int shelter) {
            int many = 0;
            for (int i = 0; i < umbrellaCount; i++) {
                if (umbrellas[i].standsIn(shelter)) {
                    many++;
                }
            }
            return many;
        }

        /** How many citizens stay there, or are on their way if it is NONE. */
        private int citizensIn(int shelter) {
            int many = 0;
            for (int i = 0; i < citizenCount; i++) {
                if (citizens[i].stays == shelter) {
                    many++;
                }
            }
            return many;
        }

        int umbrellasThatAre(int state) {
            int many = 0;
            for (int i = 0; i < umbrellaCount; i++) {
                if (umbrellas[i].state == state) {
                    many++;
                }
            }
            return many;
        }

        int wetOfAll() {
            int sum = 0;
            for (int i = 0; i < citizenCount; i++) {
                sum += citizens[i].wet;
            }
            return sum;
        }

        int trustOfAll() {
            int sum = 0;
            for (int i = 0; i < citizenCount; i++) {
                sum += citizens[i].trust;
            }
            return sum;
        }

        int tellShelter(int number, int what) {
            if (!isShelter(number)) {
                return NONE;
            }
            Shelter told = shelters[number];
            switch (what) {
                case 0:
                    return told.place;
                case 1:
                    return told.demand;
                case 2:
                    return umbrellasIn(number);
                case 3:
                    return citizensIn(number);
                case 4:
                    return told.taken;
                case 5:
                    return told.forgotten;
                case 6:
                    return told.refused;
                default:
                    return firstUmbrellaIn(number);
            }
        }

        int tellAll(int what) {
            switch (what) {
                case 0:
                    return hour;
                case 1:
                    return shelterCount;
                case 2:
                    return umbrellaCount;
                case 3:
                    return citizenCount;
                case 4:
                    return umbrellasThatAre(IN_SHELTER);
                case 5:
                    return umbrellasThatAre(IN_HAND);
                case 6:
                    return umbrellasThatAre(FORGOTTEN);
                case 7:
                    return umbrellasThatAre(BROKEN);
                case 8:
                    return citizensIn(NONE);
                case 9:
                    return wetOfAll();
                default:
                    return carried;
            }
        }
    }
}
