import java.util.ArrayList;
import java.util.List;

/** The document told a second time, as plainly as can be and with no thought of speed. */
final class Model {
    static final class Roof {
        int place;
        int demand;
        int taken;
        int lost;
        int refused;
        int lostToday;
        int refusedToday;
    }

    static final class Brolly {
        Roof in;
        Person with;
        boolean lost;
        boolean broken;
        int wear;
        int waits;
        int taken;
        Roof from;
    }

    static final class Person {
        Roof home;
        Roof work;
        int leaves;
        int returns;
        int forgets;
        Roof in;
        Roof to;
        int walks;
        Brolly hand;
        int trust = 5;
        int wet;
        int taken;
        int lost;
        int refused;
    }

    private final List<Roof> roofs = new ArrayList<>();
    private final List<Brolly> brollies = new ArrayList<>();
    private final List<Person> people = new ArrayList<>();
    private final int[] rain = new int[24];
    private int hour;
    private int carts;

    Model copy() {
        Model m = new Model();
        System.arraycopy(rain, 0, m.rain, 0, 24);
        m.hour = hour;
        m.carts = carts;
        for (Roof r : roofs) {
            Roof n = new Roof();
            n.place = r.place;
            n.demand = r.demand;
            n.taken = r.taken;
            n.lost = r.lost;
            n.refused = r.refused;
            n.lostToday = r.lostToday;
            n.refusedToday = r.refusedToday;
            m.roofs.add(n);
        }
        for (Person p : people) {
            Person n = new Person();
            n.home = m.twin(p.home, roofs);
            n.work = m.twin(p.work, roofs);
            n.leaves = p.leaves;
            n.returns = p.returns;
            n.forgets = p.forgets;
            n.in = m.twin(p.in, roofs);
            n.to = m.twin(p.to, roofs);
            n.walks = p.walks;
            n.trust = p.trust;
            n.wet = p.wet;
            n.taken = p.taken;
            n.lost = p.lost;
            n.refused = p.refused;
            m.people.add(n);
        }
        for (Brolly b : brollies) {
            Brolly n = new Brolly();
            n.in = m.twin(b.in, roofs);
            n.with = b.with == null ? null : m.people.get(people.indexOf(b.with));
            n.lost = b.lost;
            n.broken = b.broken;
            n.wear = b.wear;
            n.waits = b.waits;
            n.taken = b.taken;
            n.from = m.twin(b.from, roofs);
            if (n.with != null) {
                n.with.hand = n;
            }
            m.brollies.add(n);
        }
        return m;
    }

    private Roof twin(Roof r, List<Roof> old) {
        return r == null ? null : roofs.get(old.indexOf(r));
    }

    private Roof roof(int number) {
        if (number < 0 || number >= roofs.size()) {
            throw new IndexOutOfBoundsException();
        }
        return roofs.get(number);
    }

    private Brolly brolly(int number) {
        if (number < 0 || number >= brollies.size()) {
            throw new IndexOutOfBoundsException();
        }
        return brollies.get(number);
    }

    private Person person(int number) {
        if (number < 0 || number >= people.size()) {
            throw new IndexOutOfBoundsException();
        }
        return people.get(number);
    }

    private static void index(int number, int least, int most) {
        if (number < least || number > most) {
            throw new IndexOutOfBoundsException();
        }
    }

    private static void argument(int number, int least, int most) {
        if (number < least || number > most) {
            throw new IllegalArgumentException();
        }
    }

    private static void state(boolean wrong) {
        if (wrong) {
            throw new IllegalStateException();
        }
    }

    int build(int place, int demand) {
        argument(place, 0, 99);
        argument(demand, 0, 10);
        for (Roof r : roofs) {
            state(r.place == place);
        }
        state(roofs.size() == 8);
        Roof r = new Roof();
        r.place = place;
        r.demand = demand;
        roofs.add(r);
        return roofs.size() - 1;
    }

    int bring(int shelter, int many) {
        Roof r = roof(shelter);
        argument(many, 1, 10);
        state(brollies.size() + many > 40);
        for (int i = 0; i < many; i++) {
            Brolly b = new Brolly();
            b.in = r;
            brollies.add(b);
        }
        return brollies.size();
    }

    int addCitizen(int home, int work, int leaves, int returns, int forgets) {
        Person p = new Person();
        p.home = roof(home);
        p.work = roof(work);
        p.in = p.home;
        argument(home == work ? 1 : 0, 0, 0);
        argument(leaves, 0, 23);
        argument(returns, 0, 23);
        argument(leaves == returns ? 1 : 0, 0, 0);
        argument(forgets, 1, 9);
        state(people.size() == 10);
        p.leaves = leaves;
        p.returns = returns;
        p.forgets = forgets;
        people.add(p);
        return people.size() - 1;
    }

    int setRain(int at, int amount) {
        index(at, 0, 23);
        argument(amount, 0, 9);
        int before = rain[at];
        rain[at] = amount;
        return before;
    }

    int setDemand(int shelter, int demand) {
        Roof r = roof(shelter);
        argument(demand, 0, 10);
        int before = r.demand;
        r.demand = demand;
        return before;
    }

    private List<Brolly> standing(Roof r) {
        List<Brolly> there = new ArrayList<>();
        for (Brolly b : brollies) {
            if (b.in == r) {
                there.add(b);
            }
        }
        return there;
    }

    private Brolly first(Roof r) {
        Brolly best = null;
        for (Brolly b : standing(r)) {
            if (best == null || b.wear < best.wear) {
                best = b;
            }
        }
        return best;
    }

    int shelter(int shelter, int what) {
        Roof r = roof(shelter);
        index(what, 0, 7);
        int there = 0;
        for (Person p : people) {
            there += p.in == r ? 1 : 0;
        }
        int[] told = {r.place, r.demand, standing(r).size(), there, r.taken, r.lost, r.refused,
            brollies.indexOf(first(r))};
        return told[what];
    }

    int umbrella(int umbrella, int what) {
        Brolly b = brolly(umbrella);
        index(what, 0, 5);
        int kind = b.in != null ? 0 : b.with != null ? 1 : b.lost ? 2 : 3;
        int where = b.in != null ? roofs.indexOf(b.in) : people.indexOf(b.with);
        int[] told = {kind, where, b.wear, b.waits, b.taken, roofs.indexOf(b.from)};
        return told[what];
    }

    int citizen(int citizen, int what) {
        Person p = person(citizen);
        index(what, 0, 9);
        int[] told = {roofs.indexOf(p.home), roofs.indexOf(p.work), roofs.indexOf(p.in), p.walks,
            brollies.indexOf(p.hand), p.trust, p.wet, p.taken, p.lost, p.refused};
        return told[what];
    }

    int count(int what) {
        index(what, 0, 10);
        int[] told = {hour, roofs.size(), brollies.size(), people.size(), 0, 0, 0, 0, 0, 0, carts};
        for (int i = 0; i < brollies.size(); i++) {
            told[4 + umbrella(i, 0)]++;
        }
        for (Person p : people) {
            told[8] += p.in == null ? 1 : 0;
            told[9] += p.wet;
        }
        return told[what];
    }

    int pass(int hours) {
        argument(hours, 1, 100);
        int taken = 0;
        for (int i = 0; i < hours; i++) {
            taken += hour(hour % 24);
        }
        return taken;
    }

    private int hour(int h) {
        for (Brolly b : brollies) {
            if (b.lost || b.broken) {
                comeBack(b);
            }
        }
        int taken = 0;
        for (Person p : people) {
            if (p.in == p.home && p.leaves == h || p.in == p.work && p.returns == h) {
                taken += leave(p, h);
            }
        }
        for (Person p : people) {
            if (p.in == null) {
                walk(p, h);
            }
        }
        if (h == 0 || h == 6 || h == 12 || h == 18) {
            cart();
        }
        if (h == 23) {
            decree();
        }
        hour++;
        return taken;
    }

    private void comeBack(Brolly b) {
        b.waits--;
        if (b.waits > 0) {
            return;
        }
        b.in = b.lost ? b.from : roofs.get(0);
        b.wear = b.lost ? b.wear : 0;
        b.lost = false;
        b.broken = false;
    }

    private int leave(Person p, int h) {
        Roof here = p.in;
        int taken = 0;
        if (rain[h] > 0 || rain[h == 23 ? 0 : h + 1] > 0) {
            Brolly b = first(here);
            if (p.trust >= here.demand && b != null) {
                b.in = null;
                b.with = p;
                b.taken++;
                b.from = here;
                p.hand = b;
                p.taken++;
                here.taken++;
                taken = 1;
            } else {
                p.refused++;
                here.refused++;
                here.refusedToday++;
            }
        }
        p.to = here == p.home ? p.work : p.home;
        p.in = null;
        int far = p.to.place > here.place ? p.to.place - here.place : here.place - p.to.place;
        p.walks = far < 10 ? 1 : far / 10;
        return taken;
    }

    private void walk(Person p, int h) {
        if (p.hand == null) {
            p.wet += rain[h];
        } else {
            p.hand.wear += rain[h];
            if (p.hand.wear >= 30) {
                p.hand.broken = true;
                p.hand.waits = 12;
                p.hand.with = null;
                p.hand = null;
            }
        }
        p.walks--;
        if (p.walks > 0) {
            return;
        }
        p.in = p.to;
        if (p.hand == null) {
            return;
        }
        Brolly b = p.hand;
        p.hand = null;
        b.with = null;
        if (p.taken % p.forgets == 0) {
            b.lost = true;
            b.waits = 24;
            p.lost++;
            b.from.lost++;
            b.from.lostToday++;
            p.trust = p.trust < 2 ? 0 : p.trust - 2;
        } else {
            b.in = p.in;
            p.trust = p.trust == 10 ? 10 : p.trust + 1;
        }
    }

    private void cart() {
        Roof most = null;
        Roof fewest = null;
        for (Roof r : roofs) {
            most = most == null || standing(r).size() > standing(most).size() ? r : most;
            fewest = fewest == null || standing(r).size() < standing(fewest).size() ? r : fewest;
        }
        if (most != null && standing(most).size() >= standing(fewest).size() + 2) {
            first(most).in = fewest;
            carts++;
        }
    }

    private void decree() {
        for (Roof r : roofs) {
            if (r.lostToday >= 2 && r.demand < 10) {
                r.demand++;
            }
            if (r.lostToday == 0 && r.refusedToday > 0 && r.demand > 0) {
                r.demand--;
            }
            r.lostToday = 0;
            r.refusedToday = 0;
        }
    }

    private int trustSum() {
        int sum = 0;
        for (Person p : people) {
            sum += p.trust;
        }
        return sum;
    }

    int foresee(int hours, int what) {
        argument(hours, 1, 100);
        index(what, 0, 4);
        Model m = copy();
        m.pass(hours);
        int[] told = {m.count(9), m.count(4), m.count(6), m.count(7), m.trustSum()};
        return told[what];
    }

    int advise(int hours) {
        argument(hours, 1, 24);
        state(brollies.size() == 40);
        int best = -1;
        int least = foresee(hours, 0);
        for (int i = 0; i < roofs.size(); i++) {
            Model m = copy();
            m.bring(i, 1);
            m.pass(hours);
            if (m.count(9) < least) {
                least = m.count(9);
                best = i;
            }
        }
        return best;
    }

    boolean wouldGet(int citizen, int shelter) {
        Person p = person(citizen);
        Roof r = roof(shelter);
        return !standing(r).isEmpty() && p.trust >= r.demand;
    }

    int lasts(int umbrella, int at) {
        Brolly b = brolly(umbrella);
        index(at, 0, 23);
        int wear = b.wear;
        for (int hours = 1; hours <= 200 && !b.broken; hours++) {
            wear += rain[(at + hours - 1) % 24];
            if (wear >= 30) {
                return hours;
            }
        }
        return -1;
    }

    double trust() {
        return people.isEmpty() ? 0 : (double) trustSum() / people.size();
    }

    long digest() {
        long d = 569;
        for (int what = 0; what <= 10; what++) {
            d = d * 31 + count(what);
        }
        for (int amount : rain) {
            d = d * 31 + amount;
        }
        for (int i = 0; i < roofs.size(); i++) {
            for (int what = 0; what <= 7; what++) {
                d = d * 31 + shelter(i, what);
            }
        }
        for (int i = 0; i < brollies.size(); i++) {
            for (int what = 0; what <= 5; what++) {
                d = d * 31 + umbrella(i, what);
            }
        }
        for (int i = 0; i < people.size(); i++) {
            for (int what = 0; what <= 9; what++) {
                d = d * 31 + citizen(i, what);
            }
        }
        return d;
    }
}
