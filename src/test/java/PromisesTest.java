/** The promises 1 to 10 and 12 to 17, each with ordinary inputs, its edges and wrong inputs. */
public final class PromisesTest {
    private static final int LOW = Integer.MIN_VALUE;
    private static final int HIGH = Integer.MAX_VALUE;

    public static void main(String[] args) {
        promise1NewObject();
        promise2Build();
        promise3Bring();
        promise4AddCitizen();
        promise5SetRain();
        promise6SetDemand();
        promise7Shelter();
        promise8Umbrella();
        promise9Citizen();
        promise10Count();
        promise12Foresee();
        promise13Advise();
        promise13AdviseFarther();
        promise14WouldGet();
        promise15Lasts();
        promise15LastsElsewhere();
        promise16Trust();
        promise17Digest();
        Check.end("PromisesTest");
    }

    private static void promise1NewObject() {
        UmbrellaLand x = new UmbrellaLand();
        for (int what = 0; what <= 10; what++) {
            Check.same("new: count(" + what + ")", x.count(what), 0);
        }
        Check.same("new: trust()", x.trust(), 0.0);
        Check.same("new: advise(24)", x.advise(24), -1);
        Check.index(x, "new: shelter(0, 0)", () -> x.shelter(0, 0));
        Check.index(x, "new: umbrella(0, 0)", () -> x.umbrella(0, 0));
        Check.index(x, "new: citizen(0, 0)", () -> x.citizen(0, 0));
        for (int hour = 0; hour < 24; hour++) {
            Check.same("new: setRain(" + hour + ", 0)", x.setRain(hour, 0), 0);
        }
        Check.same("new: pass(100)", x.pass(100), 0);
        Check.same("new: hour behind it", x.count(0), 100);
        Check.same("another object starts at 0", new UmbrellaLand().count(0), 0);
    }

    private static void promise2Build() {
        UmbrellaLand x = new UmbrellaLand();
        for (int wrong : new int[] {-1, 100, LOW, HIGH}) {
            Check.argument(x, "build(" + wrong + ", 0)", () -> x.build(wrong, 0));
        }
        for (int wrong : new int[] {-1, 11, LOW, HIGH}) {
            Check.argument(x, "build(0, " + wrong + ")", () -> x.build(0, wrong));
        }
        Check.same("build(0, 0)", x.build(0, 0), 0);
        Check.same("build(99, 10)", x.build(99, 10), 1);
        Check.state(x, "build on a taken place", () -> x.build(0, 3));
        Check.state(x, "build on the other taken place", () -> x.build(99, 3));
        Check.argument(x, "build on a taken place with a wrong demand", () -> x.build(0, 11));
        for (int i = 2; i < 8; i++) {
            Check.same("build the next", x.build(i, i), i);
        }
        Check.state(x, "build a ninth", () -> x.build(50, 0));
        Check.argument(x, "build a ninth on a wrong place", () -> x.build(100, 0));
        Check.same("shelters", x.count(1), 8);
        Check.same("the last place", x.shelter(7, 0), 7);
        Check.same("the last demand", x.shelter(7, 1), 7);
    }

    private static void promise3Bring() {
        UmbrellaLand x = new UmbrellaLand();
        Check.index(x, "bring(0, 1) without shelters", () -> x.bring(0, 1));
        Check.index(x, "bring(0, 0) without shelters", () -> x.bring(0, 0));
        x.build(10, 0);
        x.build(20, 0);
        for (int wrong : new int[] {-1, 2, LOW, HIGH}) {
            Check.index(x, "bring(" + wrong + ", 1)", () -> x.bring(wrong, 1));
        }
        for (int wrong : new int[] {0, -1, 11, LOW, HIGH}) {
            Check.argument(x, "bring(0, " + wrong + ")", () -> x.bring(0, wrong));
        }
        Check.same("bring(0, 10)", x.bring(0, 10), 10);
        Check.same("bring(1, 1)", x.bring(1, 1), 11);
        Check.same("where the tenth is", x.umbrella(9, 1), 0);
        Check.same("where the eleventh is", x.umbrella(10, 1), 1);
        x.bring(1, 10);
        x.bring(1, 10);
        Check.state(x, "bring 10 to 31", () -> x.bring(0, 10));
        Check.same("bring 9 to 31", x.bring(0, 9), 40);
        Check.state(x, "bring 1 to 40", () -> x.bring(0, 1));
        Check.argument(x, "bring 11 to 40", () -> x.bring(0, 11));
        Check.index(x, "bring to no shelter with 40", () -> x.bring(2, 11));
    }

    private static void promise4AddCitizen() {
        UmbrellaLand x = new UmbrellaLand();
        x.build(0, 0);
        Check.index(x, "work is no shelter", () -> x.addCitizen(0, 1, 1, 2, 1));
        Check.index(x, "home is no shelter", () -> x.addCitizen(1, 0, 1, 2, 1));
        Check.index(x, "home is -1, all else wrong", () -> x.addCitizen(-1, -1, 24, 24, 0));
        Check.argument(x, "home is the work", () -> x.addCitizen(0, 0, 1, 2, 1));
        x.build(50, 0);
        for (int wrong : new int[] {-1, 24, LOW, HIGH}) {
            Check.argument(x, "leaves " + wrong, () -> x.addCitizen(0, 1, wrong, 2, 1));
            Check.argument(x, "returns " + wrong, () -> x.addCitizen(0, 1, 2, wrong, 1));
            Check.index(x, "home " + wrong, () -> x.addCitizen(wrong, 1, 1, 2, 1));
            Check.index(x, "work " + wrong, () -> x.addCitizen(0, wrong, 1, 2, 1));
        }
        for (int wrong : new int[] {0, 10, LOW, HIGH}) {
            Check.argument(x, "forgets " + wrong, () -> x.addCitizen(0, 1, 1, 2, wrong));
        }
        Check.argument(x, "leaves when it returns", () -> x.addCitizen(0, 1, 7, 7, 1));
        Check.same("the first", x.addCitizen(0, 1, 0, 23, 1), 0);
        Check.same("the second", x.addCitizen(1, 0, 23, 0, 9), 1);
        for (int i = 2; i < 10; i++) {
            Check.same("the next", x.addCitizen(0, 1, 3, 4, 5), i);
        }
        Check.state(x, "an eleventh", () -> x.addCitizen(0, 1, 3, 4, 5));
        Check.argument(x, "a wrong eleventh", () -> x.addCitizen(0, 1, 3, 4, 0));
        Check.index(x, "an eleventh without work", () -> x.addCitizen(0, 2, 3, 4, 0));
    }

    private static void promise5SetRain() {
        UmbrellaLand x = new UmbrellaLand();
        for (int wrong : new int[] {-1, 24, LOW, HIGH}) {
            Check.index(x, "setRain(" + wrong + ", 1)", () -> x.setRain(wrong, 1));
            Check.index(x, "setRain(" + wrong + ", 10)", () -> x.setRain(wrong, 10));
        }
        for (int wrong : new int[] {-1, 10, LOW, HIGH}) {
            Check.argument(x, "setRain(5, " + wrong + ")", () -> x.setRain(5, wrong));
        }
        for (int hour = 0; hour < 24; hour++) {
            Check.same("rain at first", x.setRain(hour, hour % 10), 0);
        }
        for (int hour = 0; hour < 24; hour++) {
            Check.same("rain before", x.setRain(hour, 0), hour % 10);
        }
    }

    private static void promise6SetDemand() {
        UmbrellaLand x = new UmbrellaLand();
        Check.index(x, "setDemand without shelters", () -> x.setDemand(0, 0));
        x.build(0, 3);
        x.build(1, 7);
        for (int wrong : new int[] {-1, 2, LOW, HIGH}) {
            Check.index(x, "setDemand(" + wrong + ", 1)", () -> x.setDemand(wrong, 1));
            Check.index(x, "setDemand(" + wrong + ", 11)", () -> x.setDemand(wrong, 11));
        }
        for (int wrong : new int[] {-1, 11, LOW, HIGH}) {
            Check.argument(x, "setDemand(0, " + wrong + ")", () -> x.setDemand(0, wrong));
        }
        Check.same("setDemand(0, 10)", x.setDemand(0, 10), 3);
        Check.same("setDemand(0, 0)", x.setDemand(0, 0), 10);
        Check.same("demand of 0", x.shelter(0, 1), 0);
        Check.same("demand of 1", x.shelter(1, 1), 7);
    }

    /** Citizen 0 walks 0 to 1 in the hours 1 to 3 with the umbrella 0; citizen 1 finds the demand too high. */
    private static UmbrellaLand smallLand() {
        UmbrellaLand x = new UmbrellaLand();
        x.build(10, 5);
        x.build(40, 6);
        x.bring(0, 2);
        x.bring(1, 1);
        x.addCitizen(0, 1, 1, 12, 1);
        x.addCitizen(1, 0, 1, 12, 2);
        x.setRain(1, 4);
        x.setRain(3, 2);
        return x;
    }

    private static void checkShelter(UmbrellaLand x, int shelter, int[] due) {
        for (int what = 0; what < due.length; what++) {
            Check.same("shelter(" + shelter + ", " + what + ")", x.shelter(shelter, what), due[what]);
        }
    }

    private static void checkUmbrella(UmbrellaLand x, int umbrella, int[] due) {
        for (int what = 0; what < due.length; what++) {
            Check.same("umbrella(" + umbrella + ", " + what + ")", x.umbrella(umbrella, what), due[what]);
        }
    }

    private static void checkCitizen(UmbrellaLand x, int citizen, int[] due) {
        for (int what = 0; what < due.length; what++) {
            Check.same("citizen(" + citizen + ", " + what + ")", x.citizen(citizen, what), due[what]);
        }
    }

    private static void checkCounts(UmbrellaLand x, int[] due) {
        for (int what = 0; what < due.length; what++) {
            Check.same("count(" + what + ")", x.count(what), due[what]);
        }
    }

    private static void promise7Shelter() {
        UmbrellaLand x = smallLand();
        checkShelter(x, 0, new int[] {10, 5, 2, 1, 0, 0, 0, 0});
        checkShelter(x, 1, new int[] {40, 6, 1, 1, 0, 0, 0, 2});
        x.pass(2);
        checkShelter(x, 0, new int[] {10, 5, 1, 0, 1, 0, 0, 1});
        checkShelter(x, 1, new int[] {40, 6, 1, 0, 0, 0, 1, 2});
        x.pass(2);
        checkShelter(x, 0, new int[] {10, 5, 1, 1, 1, 1, 0, 1});
        checkShelter(x, 1, new int[] {40, 6, 1, 1, 0, 0, 1, 2});
        for (int wrong : new int[] {-1, 8, LOW, HIGH}) {
            Check.index(x, "shelter(0, " + wrong + ")", () -> x.shelter(0, wrong));
        }
        for (int wrong : new int[] {-1, 2, LOW, HIGH}) {
            Check.index(x, "shelter(" + wrong + ", 0)", () -> x.shelter(wrong, 0));
        }
        x.build(70, 1);
        checkShelter(x, 2, new int[] {70, 1, 0, 0, 0, 0, 0, -1});
    }

    private static void promise8Umbrella() {
        UmbrellaLand x = smallLand();
        checkUmbrella(x, 0, new int[] {0, 0, 0, 0, 0, -1});
        checkUmbrella(x, 2, new int[] {0, 1, 0, 0, 0, -1});
        x.pass(2);
        checkUmbrella(x, 0, new int[] {1, 0, 4, 0, 1, 0});
        checkUmbrella(x, 1, new int[] {0, 0, 0, 0, 0, -1});
        x.pass(2);
        checkUmbrella(x, 0, new int[] {2, -1, 6, 24, 1, 0});
        x.pass(1);
        Check.same("an hour less", x.umbrella(0, 3), 23);
        x.pass(22);
        checkUmbrella(x, 0, new int[] {2, -1, 6, 1, 1, 0});
        x.pass(1);
        checkUmbrella(x, 0, new int[] {0, 0, 6, 0, 1, 0});
        for (int wrong : new int[] {-1, 6, LOW, HIGH}) {
            Check.index(x, "umbrella(0, " + wrong + ")", () -> x.umbrella(0, wrong));
        }
        for (int wrong : new int[] {-1, 3, 40, LOW, HIGH}) {
            Check.index(x, "umbrella(" + wrong + ", 0)", () -> x.umbrella(wrong, 0));
        }
    }

    private static void promise9Citizen() {
        UmbrellaLand x = smallLand();
        checkCitizen(x, 0, new int[] {0, 1, 0, 0, -1, 5, 0, 0, 0, 0});
        checkCitizen(x, 1, new int[] {1, 0, 1, 0, -1, 5, 0, 0, 0, 0});
        x.pass(2);
        checkCitizen(x, 0, new int[] {0, 1, -1, 2, 0, 5, 0, 1, 0, 0});
        checkCitizen(x, 1, new int[] {1, 0, -1, 2, -1, 5, 4, 0, 0, 1});
        x.pass(2);
        checkCitizen(x, 0, new int[] {0, 1, 1, 0, -1, 3, 0, 1, 1, 0});
        checkCitizen(x, 1, new int[] {1, 0, 0, 0, -1, 5, 6, 0, 0, 1});
        for (int wrong : new int[] {-1, 10, LOW, HIGH}) {
            Check.index(x, "citizen(0, " + wrong + ")", () -> x.citizen(0, wrong));
        }
        for (int wrong : new int[] {-1, 2, 10, LOW, HIGH}) {
            Check.index(x, "citizen(" + wrong + ", 0)", () -> x.citizen(wrong, 0));
        }
    }

    private static void promise10Count() {
        UmbrellaLand x = smallLand();
        checkCounts(x, new int[] {0, 2, 3, 2, 3, 0, 0, 0, 0, 0, 0});
        x.pass(2);
        checkCounts(x, new int[] {2, 2, 3, 2, 2, 1, 0, 0, 2, 4, 0});
        x.pass(2);
        checkCounts(x, new int[] {4, 2, 3, 2, 2, 0, 1, 0, 0, 6, 0});
        x.bring(0, 2);
        x.pass(2);
        checkCounts(x, new int[] {6, 2, 5, 2, 4, 0, 1, 0, 0, 6, 0});
        x.pass(1);
        checkCounts(x, new int[] {7, 2, 5, 2, 4, 0, 1, 0, 0, 6, 1});
        for (int wrong : new int[] {-1, 11, LOW, HIGH}) {
            Check.index(x, "count(" + wrong + ")", () -> x.count(wrong));
        }
        UmbrellaLand y = rainyLand();
        y.pass(4);
        checkCounts(y, new int[] {4, 2, 1, 1, 0, 0, 0, 1, 1, 0, 0});
        y.pass(1);
        checkCounts(y, new int[] {5, 2, 1, 1, 0, 0, 0, 1, 1, 5, 0});
    }

    /** The only umbrella breaks in the hour 3, and its citizen goes on through the rain of the hour 4. */
    private static UmbrellaLand rainyLand() {
        UmbrellaLand x = new UmbrellaLand();
        x.build(0, 0);
        x.build(99, 0);
        x.bring(1, 1);
        x.addCitizen(1, 0, 0, 12, 1);
        x.setRain(0, 9);
        x.setRain(1, 9);
        x.setRain(2, 9);
        x.setRain(3, 3);
        x.setRain(4, 5);
        return x;
    }

    private static void promise12Foresee() {
        UmbrellaLand x = smallLand();
        long before = x.digest();
        Check.same("foresee(1, 0)", x.foresee(1, 0), 0);
        Check.same("foresee(2, 0)", x.foresee(2, 0), 4);
        Check.same("foresee(4, 0)", x.foresee(4, 0), 6);
        Check.same("foresee(2, 1)", x.foresee(2, 1), 2);
        Check.same("foresee(3, 2)", x.foresee(3, 2), 0);
        Check.same("foresee(4, 2)", x.foresee(4, 2), 1);
        Check.same("foresee(4, 3)", x.foresee(4, 3), 0);
        Check.same("foresee(3, 4)", x.foresee(3, 4), 10);
        Check.same("foresee(4, 4)", x.foresee(4, 4), 8);
        Check.same("foresee changes nothing", x.digest(), before);
        for (int wrong : new int[] {0, -1, 101, LOW, HIGH}) {
            Check.argument(x, "foresee(" + wrong + ", 0)", () -> x.foresee(wrong, 0));
            Check.argument(x, "foresee(" + wrong + ", 5)", () -> x.foresee(wrong, 5));
        }
        for (int wrong : new int[] {-1, 5, LOW, HIGH}) {
            Check.index(x, "foresee(1, " + wrong + ")", () -> x.foresee(1, wrong));
        }
        UmbrellaLand y = rainyLand();
        Check.same("foresee the whole one", y.foresee(3, 3), 0);
        Check.same("foresee the broken one", y.foresee(4, 3), 1);
        Check.same("foresee the last hour of waiting", y.foresee(15, 3), 1);
        Check.same("foresee the mended one", y.foresee(16, 3), 0);
        Check.same("foresee it in its shelter", y.foresee(16, 1), 1);
        Check.same("foresee(100, 0)", y.foresee(100, 0), 5 + 3 * 35 + 30);
        Check.same("still at the hour 0", y.count(0), 0);
    }

    /** Three shelters without umbrellas; citizens leave 1 and 2 at the hour 3. */
    private static UmbrellaLand landInNeed() {
        UmbrellaLand x = new UmbrellaLand();
        x.build(0, 0);
        x.build(10, 0);
        x.build(20, 0);
        x.addCitizen(1, 0, 3, 12, 9);
        x.addCitizen(2, 1, 3, 12, 9);
        x.setRain(3, 7);
        return x;
    }

    private static void promise13Advise() {
        UmbrellaLand x = landInNeed();
        long before = x.digest();
        Check.same("nobody leaves in 3 hours", x.advise(3), -1);
        Check.same("of two the smaller", x.advise(4), 1);
        Check.same("advise changes nothing", x.digest(), before);
        x.bring(1, 1);
        Check.same("one has it, the other not", x.advise(4), 2);
        x.setDemand(2, 6);
        Check.same("who is not trusted is not helped", x.advise(4), -1);
        x.setDemand(2, 5);
        x.bring(2, 1);
        Check.same("all have one", x.advise(24), -1);
        for (int wrong : new int[] {0, -1, 25, LOW, HIGH}) {
            Check.argument(x, "advise(" + wrong + ")", () -> x.advise(wrong));
        }
        x.bring(0, 10);
        x.bring(0, 10);
        x.bring(0, 10);
        x.bring(0, 7);
        Check.same("39 umbrellas, all have one", x.advise(24), -1);
        x.bring(0, 1);
        Check.state(x, "advise(24) with 40", () -> x.advise(24));
        Check.argument(x, "advise(25) with 40", () -> x.advise(25));
    }

    private static void promise13AdviseFarther() {
        UmbrellaLand x = landInNeed();
        x.build(90, 0);
        x.addCitizen(3, 0, 3, 12, 9);
        x.setRain(4, 1);
        Check.same("the one who walks longer is helped", x.advise(24), 3);
        Check.same("in the first hour all are as wet", x.advise(4), 1);
        x.pass(5);
        Check.same("too late", x.advise(19), -1);
        Check.same("the next morning", x.advise(24), 3);
    }

    private static void promise14WouldGet() {
        UmbrellaLand x = smallLand();
        Check.same("trust 5, demand 5", x.wouldGet(0, 0), true);
        Check.same("trust 5, demand 6", x.wouldGet(0, 1), false);
        Check.same("the other citizen", x.wouldGet(1, 0), true);
        x.setDemand(1, 0);
        Check.same("trust 5, demand 0", x.wouldGet(0, 1), true);
        x.pass(2);
        Check.same("on the way", x.wouldGet(0, 0), true);
        x.pass(2);
        Check.same("trust 3 behind forgetting", x.wouldGet(0, 0), false);
        Check.same("the other one is trusted", x.wouldGet(1, 0), true);
        x.build(90, 0);
        Check.same("an empty shelter", x.wouldGet(0, 2), false);
        for (int wrong : new int[] {-1, 2, LOW, HIGH}) {
            Check.index(x, "wouldGet(" + wrong + ", 0)", () -> x.wouldGet(wrong, 0));
        }
        for (int wrong : new int[] {-1, 3, LOW, HIGH}) {
            Check.index(x, "wouldGet(0, " + wrong + ")", () -> x.wouldGet(0, wrong));
        }
    }

    private static void promise15Lasts() {
        UmbrellaLand x = new UmbrellaLand();
        x.build(0, 0);
        x.build(5, 0);
        x.bring(0, 1);
        x.addCitizen(0, 1, 0, 12, 9);
        Check.same("without rain", x.lasts(0, 0), -1);
        x.setRain(0, 3);
        Check.same("3 a day, new", x.lasts(0, 0), -1);
        x.pass(1);
        Check.same("worn by 3", x.umbrella(0, 2), 3);
        x.setRain(0, 0);
        x.setRain(7, 3);
        Check.same("just 200", x.lasts(0, 0), 200);
        Check.same("201", x.lasts(0, 23), -1);
        Check.same("from the rain on", x.lasts(0, 7), 193);
        x.setRain(7, 9);
        Check.same("on the third day", x.lasts(0, 7), 49);
        Check.same("on the fourth morning", x.lasts(0, 8), 72);
        for (int wrong : new int[] {-1, 24, LOW, HIGH}) {
            Check.index(x, "lasts(0, " + wrong + ")", () -> x.lasts(0, wrong));
        }
        for (int wrong : new int[] {-1, 1, LOW, HIGH}) {
            Check.index(x, "lasts(" + wrong + ", 0)", () -> x.lasts(wrong, 0));
        }
    }

    private static void promise15LastsElsewhere() {
        UmbrellaLand x = rainyLand();
        x.pass(3);
        Check.same("27 in a hand, rain 3", x.lasts(0, 3), 1);
        Check.same("27 in a hand, a dry hour ahead", x.lasts(0, 23), 2);
        x.pass(1);
        Check.same("broken", x.lasts(0, 0), -1);
        x.pass(12);
        Check.same("mended", x.lasts(0, 0), 4);
        UmbrellaLand y = smallLand();
        y.pass(4);
        Check.same("forgotten", y.umbrella(0, 0), 2);
        Check.same("forgotten with 6, 4 and 2 a day", y.lasts(0, 1), 3 * 24 + 3);
    }

    private static void promise16Trust() {
        UmbrellaLand x = smallLand();
        Check.same("trust at first", x.trust(), 5.0);
        x.pass(4);
        Check.same("trust of 3 and 5", x.trust(), 4.0);
        x.addCitizen(0, 1, 1, 2, 3);
        Check.same("trust of 3, 5 and 5", x.trust(), 13.0 / 3.0);
        UmbrellaLand y = new UmbrellaLand();
        y.build(0, 0);
        y.build(1, 0);
        y.bring(0, 10);
        Check.same("trust without citizens", y.trust(), 0.0);
    }

    private static void promise17Digest() {
        Check.same("digest of a new one", new UmbrellaLand().digest(), -1772847775298073817L);
        UmbrellaLand x = smallLand();
        int[] rain = new int[24];
        rain[1] = 4;
        rain[3] = 2;
        for (int i = 0; i < 6; i++) {
            Check.same("digest", x.digest(), Lands.digestOf(x, rain));
            x.pass(1 + 7 * i);
        }
        x.setRain(23, 8);
        rain[23] = 8;
        long due = Lands.digestOf(x, rain);
        Check.same("digest", x.digest(), due);
        Check.same("digest again", x.digest(), due);
    }
}
