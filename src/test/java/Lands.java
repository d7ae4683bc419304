import java.math.BigInteger;
import java.util.function.Supplier;

/**
 * Lands that tests begin with, and what they ask of them again and again. An object answers for 512 calls
 * alone, so a test that asks much makes a new one for each hour that it looks at.
 */
final class Lands {
    private Lands() {
    }

    /** Shelters at these places, each with the demand 0. */
    static UmbrellaLand shelters(int... places) {
        UmbrellaLand x = new UmbrellaLand();
        for (int place : places) {
            x.build(place, 0);
        }
        return x;
    }

    static void bring(UmbrellaLand x, int shelter, int many) {
        for (int left = many; left > 0; left -= 10) {
            x.bring(shelter, Math.min(left, 10));
        }
    }

    static void rain(UmbrellaLand x, int rain, int... hours) {
        for (int hour : hours) {
            x.setRain(hour, rain);
        }
    }

    static void rainFrom(UmbrellaLand x, int hour, int... rains) {
        for (int i = 0; i < rains.length; i++) {
            x.setRain(hour + i, rains[i]);
        }
    }

    /** Two shelters an hour from each other; citizen 0 goes from 0 to 1 and back, in rain of 1. */
    static UmbrellaLand commuter(int forgets, int umbrellasAtHome, int umbrellasAtWork) {
        UmbrellaLand x = shelters(0, 10);
        bring(x, 0, umbrellasAtHome);
        bring(x, 1, umbrellasAtWork);
        x.addCitizen(0, 1, 1, 3, forgets);
        rain(x, 1, 1, 3);
        return x;
    }

    /** Lets the hours of a commuter's next walk go by: those to work in the morning, then those home. */
    static void walk(UmbrellaLand x) {
        int hourOfDay = x.count(0) % 24;
        x.pass(hourOfDay < 2 ? 2 - hourOfDay : hourOfDay < 4 ? 4 - hourOfDay : 26 - hourOfDay);
    }

    /** 8 shelters, 5 umbrellas in each, 10 citizens, and the hour 0; all of it is the most that can be. */
    static UmbrellaLand full() {
        UmbrellaLand x = shelters(0, 10, 25, 40, 55, 70, 85, 99);
        for (int i = 0; i < 8; i++) {
            x.setDemand(i, i);
            x.bring(i, 5);
        }
        for (int i = 0; i < 10; i++) {
            x.addCitizen(i % 8, (i + 3) % 8, i % 5, 12 + i % 7, 1 + i % 9);
        }
        return x;
    }

    /** The full one in a wet autumn. */
    static UmbrellaLand fullAndWet() {
        UmbrellaLand x = full();
        int[] rain = autumn();
        for (int hour = 0; hour < 24; hour++) {
            x.setRain(hour, rain[hour]);
        }
        return x;
    }

    static int[] autumn() {
        int[] rain = new int[24];
        for (int hour = 0; hour < 24; hour++) {
            rain[hour] = Math.max(0, hour * 7 % 13 - 3);
        }
        return rain;
    }

    /** Such a land as it is when so many hours, 0 to 100, have gone by. */
    static UmbrellaLand behind(int hours, Supplier<UmbrellaLand> land) {
        UmbrellaLand x = land.get();
        if (hours > 0) {
            x.pass(hours);
        }
        return x;
    }

    /** 3 shelters, 5 umbrellas and 5 citizens: there is room for more, and many are refused. */
    static UmbrellaLand half() {
        UmbrellaLand x = shelters(0, 30, 60);
        x.setDemand(1, 4);
        x.setDemand(2, 5);
        x.bring(0, 3);
        x.bring(2, 2);
        for (int i = 0; i < 5; i++) {
            x.addCitizen(i % 3, (i + 1) % 3, 1 + i / 2, 20 + i % 4, 1 + i % 2);
        }
        rain(x, 6, 1, 2, 3, 20, 22, 23);
        return x;
    }

    /** The checksum by the document's words, out of what the other calls tell. */
    static long digestOf(UmbrellaLand x, int[] rain) {
        BigInteger d = BigInteger.valueOf(569);
        for (int what = 0; what <= 10; what++) {
            d = next(d, x.count(what));
        }
        for (int amount : rain) {
            d = next(d, amount);
        }
        int shelters = x.count(1);
        for (int i = 0; i < shelters; i++) {
            for (int what = 0; what <= 7; what++) {
                d = next(d, x.shelter(i, what));
            }
        }
        int umbrellas = x.count(2);
        for (int i = 0; i < umbrellas; i++) {
            for (int what = 0; what <= 5; what++) {
                d = next(d, x.umbrella(i, what));
            }
        }
        int citizens = x.count(3);
        for (int i = 0; i < citizens; i++) {
            for (int what = 0; what <= 9; what++) {
                d = next(d, x.citizen(i, what));
            }
        }
        return d.longValue();
    }

    private static BigInteger next(BigInteger d, int number) {
        return d.multiply(BigInteger.valueOf(31)).add(BigInteger.valueOf(number));
    }
}
