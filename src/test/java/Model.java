import java.io.ByteArrayInputStream;
import java.io.ByteArrayOutputStream;
import java.io.IOException;
import java.io.ObjectInputStream;
import java.io.ObjectOutputStream;
import java.io.Serializable;
import java.util.ArrayList;
import java.util.Arrays;
import java.util.Comparator;
import java.util.List;
import java.util.TreeMap;
import java.util.TreeSet;

/**
 * A second, slow telling of the document, as unlike UtilityWorks as may be: things are objects, images and all that
 * "would be" are whole copies of the town, ways are found by trying all paths, amounts by counting up. ModelTest asks
 * both the same. The answers under "always so" are plain true here.
 */
public final class Model {
    static final int NONE = -1;
    private World w = new World();
    private final World[] images = new World[2];

    static final class Link implements Serializable {
        int bound;
        boolean sound = true;
        boolean on = true;
        boolean tripped;
        int leak;
        int strain;

        boolean leads() {
            return sound && on;
        }
    }

    static final class Street implements Serializable {
        int a;
        int b;
        int surface;
        int markets;
        boolean dug;
        boolean flooded;
        Integer filled;
        int fines;
        final Link[] links = new Link[3];

        int over(int c) {
            return c == a ? b : a;
        }
    }

    static final class Permit implements Serializable {
        int good;
        int street;
        int first;
        int last;
        int fee;
        final TreeSet<Integer> sharedBy = new TreeSet<>();

        boolean holds(int day) {
            return first <= day && day <= last;
        }
    }

    static final class Plant implements Serializable {
        int at;
        int capacity;
        boolean up = true;
    }

    static final class Well implements Serializable {
        int at;
        int gives;
        int lift;
        boolean on = true;

        int power() {
            return gives / 10 + (gives % 10 == 0 ? 0 : 1);
        }
    }

    static final class Tank implements Serializable {
        int at;
        int size;
        int level;
        int reserve;
    }

    static final class Boiler implements Serializable {
        int at;
        int capacity;
        int fuel;
        boolean lit;
        boolean burned;

        int water() {
            return capacity / 10 + (capacity % 10 == 0 ? 0 : 1);
        }
    }

    static final class Meter implements Serializable {
        int wheels;
        int slow;
        boolean isSealed = true;
        int counted;
        Integer readDay;
        boolean readRight;
        int shown;
        Integer rightDay;
        int rightDays;
        int rightWheels;
        int rightSum;
        int hundredths;
        int turned;
        int sent;
        int wanted;
        int dry;
        int dryAtBill;
        int countedAtBill;
        boolean rightSinceBill;
    }

    static final class Bill implements Serializable {
        int day;
        final long[] items = new long[3];
        long refund;
        long given;
        long sum;
        long open;
    }

    static final class Plan implements Serializable {
        int made;
        long[] instalments;
        long paidIn;
    }

    static final class Customer implements Serializable {
        int number;
        int at;
        int rank;
        int told;
        final int[] need = new int[3];
        final boolean[] connected = new boolean[3];
        final boolean[] cut = new boolean[3];
        final int[] got = new int[3];
        final Meter[] meters = {new Meter(), new Meter(), new Meter()};
        int warmth = 18;
        int darkDays;
        boolean poor;
        long credit;
        Plan plan;
        int failed;
        final List<Bill> bills = new ArrayList<>();

        long owes() {
            long sum = -credit;
            for (Bill b : bills) {
                sum += b.open;
            }
            return sum;
        }
    }

    static final class Job implements Serializable {
        int number;
        int kind;
        int good;
        int place;
        int urgency;
        int state;
        int crew = NONE;
    }

    static final class Crew implements Serializable {
        int at;
        int skills;
        int pace;
        boolean overtime;
        Job job;
        int spells;
        int done;
    }

    static final class Order implements Serializable {
        int part;
        int many;
        int due;
    }

    static final class Storm implements Serializable {
        int row;
        int strength;
        Integer column;
        int broke;

        boolean isOver(int c) {
            return column != null && c % 4 == column && Math.abs(c / 4 - row) < 2;
        }
    }

    static final class World implements Serializable {
        int day;
        final int[] height = new int[12];
        final Street[] streets = new Street[17];
        final TreeMap<Integer, Permit> permits = new TreeMap<>();
        final List<Plant> plants = new ArrayList<>();
        final List<Well> wells = new ArrayList<>();
        final List<Tank> tanks = new ArrayList<>();
        final List<Boiler> boilers = new ArrayList<>();
        final List<Customer> customers = new ArrayList<>();
        final List<Crew> crews = new ArrayList<>();
        final List<Job> jobs = new ArrayList<>();
        final List<Order> orders = new ArrayList<>();
        final TreeMap<Integer, Storm> storms = new TreeMap<>();
        final int[] stock = {4, 4, 2, 200};
        final int[] least = new int[4];
        final int[] taken = new int[4];
        final int[] came = new int[4];
        final int[] gone = new int[4];
        final int[][] tariff = {{300, 20, 100, 30}, {200, 10, 60, 15}, {400, 25, 80, 40}};
        final int[] shortDays = new int[12];
        final long[] powerSums = new long[6];
        final long[] waterSums = new long[6];
        final long[] heatSums = new long[5];
        long money = 100000;
        long fund;
        long earned;
        long paid;
        long given;
        long spent;
        long wages;
        long ordersCost;
        int temperature = 10;
        int wind = 2;
        int rain;
        boolean drawn;
        int seed = 1;
        boolean alarm;
        final int[] report = new int[6];

        World() {
            for (int c = 0; c < 12; c++) {
                height[c] = 10 * (2 - c / 4) + 5 * (c % 4);
            }
            for (int row = 0; row < 3; row++) {
                for (int column = 0; column < 3; column++) {
                    street(3 * row + column, 4 * row + column, 4 * row + column + 1);
                }
            }
            for (int row = 0; row < 2; row++) {
                for (int column = 0; column < 4; column++) {
                    street(9 + 4 * row + column, 4 * row + column, 4 * row + column + 4);
                }
            }
            for (int s = 0; s < 3; s++) {
                streets[s].surface = 1;
            }
            for (int s : new int[] {0, 1, 2, 9, 10, 11, 12, 13, 14, 15, 16}) {
                link(0, s, 60);
            }
            for (int s : new int[] {0, 1, 2, 9, 10, 13, 14}) {
                link(1, s, 40);
            }
            for (int s : new int[] {0, 1, 9, 10}) {
                link(2, s, 30);
            }
            plant(0, 40);
            plant(11, 30);
            well(8, 50, 50);
            well(5, 20, 30);
            tank(3, 200, 30).level = 150;
            Boiler b = boiler(1, 60);
            b.fuel = 50;
            b.lit = true;
            b.burned = true;
            customer(5, 0, 12, 8, 10);
            customer(1, 3, 6, 4, 3);
            customer(3, 5, 5, 3, 0);
            customer(4, 2, 8, 5, 4);
            customer(9, 5, 4, 3, 0);
            customer(6, 4, 7, 0, 0);
            crew(0, 1 + 2 + 8, 2);
            crew(5, 4 + 8 + 16, 3);
        }

        void street(int number, int a, int b) {
            streets[number] = new Street();
            streets[number].a = a;
            streets[number].b = b;
        }

        Link link(int good, int street, int bound) {
            Link l = new Link();
            l.bound = bound;
            streets[street].links[good] = l;
            return l;
        }

        void plant(int at, int capacity) {
            Plant p = new Plant();
            p.at = at;
            p.capacity = capacity;
            plants.add(p);
        }

        void well(int at, int gives, int lift) {
            Well x = new Well();
            x.at = at;
            x.gives = gives;
            x.lift = lift;
            wells.add(x);
        }

        Tank tank(int at, int size, int reserve) {
            Tank x = new Tank();
            x.at = at;
            x.size = size;
            x.reserve = reserve;
            tanks.add(x);
            return x;
        }

        Boiler boiler(int at, int capacity) {
            Boiler x = new Boiler();
            x.at = at;
            x.capacity = capacity;
            boilers.add(x);
            return x;
        }

        Customer customer(int at, int rank, int... needs) {
            Customer x = new Customer();
            x.number = customers.size();
            x.at = at;
            x.rank = rank;
            x.told = day;
            for (int g = 0; g < needs.length; g++) {
                x.need[g] = needs[g];
                x.connected[g] = needs[g] > 0;
            }
            customers.add(x);
            return x;
        }

        void crew(int at, int skills, int pace) {
            Crew x = new Crew();
            x.at = at;
            x.skills = skills;
            x.pace = pace;
            crews.add(x);
        }

        World copy() {
            try {
                ByteArrayOutputStream bytes = new ByteArrayOutputStream();
                try (ObjectOutputStream out = new ObjectOutputStream(bytes)) {
                    out.writeObject(this);
                }
                return (World) new ObjectInputStream(new ByteArrayInputStream(bytes.toByteArray())).readObject();
            } catch (IOException | ClassNotFoundException e) {
                throw new AssertionError(e);
            }
        }

        void spend(long cents) {
            money -= cents;
            spent += cents;
        }

        // ---- ways: all paths are tried, of the same length the first by crossings first

        interface Gate {
            boolean isOpen(int street);
        }

        List<Integer> path(int from, int to, Gate gate, int head) {
            for (int length = 0; length < 12; length++) {
                List<Integer> found = pathOf(length, from, to, gate, head, new TreeSet<>(Arrays.asList(from)));
                if (found != null) {
                    return found;
                }
            }
            return null;
        }

        /** The crossings of the first path with so many streets, the first one with them. */
        private List<Integer> pathOf(int length, int at, int to, Gate gate, int head, TreeSet<Integer> been) {
            if (length == 0) {
                return at == to ? new ArrayList<>(List.of(at)) : null;
            }
            int rows = Math.abs(at / 4 - to / 4);
            int columns = Math.abs(at % 4 - to % 4);
            if (rows + columns > length) {
                return null;
            }
            TreeMap<Integer, Integer> nexts = new TreeMap<>();
            for (int s = 0; s < 17; s++) {
                if ((streets[s].a == at || streets[s].b == at) && gate.isOpen(s)) {
                    nexts.put(streets[s].over(at), s);
                }
            }
            for (int next : nexts.keySet()) {
                if (!been.contains(next) && height[next] <= head) {
                    been.add(next);
                    List<Integer> rest = pathOf(length - 1, next, to, gate, head, been);
                    been.remove(next);
                    if (rest != null) {
                        rest.add(0, at);
                        return rest;
                    }
                }
            }
            return null;
        }

        int streetBetween(int a, int b) {
            for (int s = 0; s < 17; s++) {
                if (streets[s].a == Math.min(a, b) && streets[s].b == Math.max(a, b)) {
                    return s;
                }
            }
            throw new AssertionError();
        }

        List<Integer> walk(int from, int to) {
            return path(from, to, s -> !streets[s].dug && !streets[s].flooded, 1000);
        }

        TreeSet<Integer> reach(int from, Gate gate) {
            TreeSet<Integer> all = new TreeSet<>(List.of(from));
            boolean grew = true;
            while (grew) {
                grew = false;
                for (int s = 0; s < 17; s++) {
                    if (gate.isOpen(s) && all.contains(streets[s].a) != all.contains(streets[s].b)) {
                        all.add(streets[s].a);
                        all.add(streets[s].b);
                        grew = true;
                    }
                }
            }
            return all;
        }

        boolean leads(int good, int s) {
            return streets[s].links[good] != null && streets[s].links[good].leads();
        }

        boolean joined(int good, int a, int b) {
            return reach(a, s -> leads(good, s)).contains(b);
        }

        boolean wouldRing(int street) {
            return !leads(0, street) && joined(0, streets[street].a, streets[street].b);
        }

        // ---- streets

        Integer permitOn(int street, int day) {
            for (int p : permits.keySet()) {
                if (permits.get(p).street == street && permits.get(p).holds(day)) {
                    return p;
                }
            }
            return null;
        }

        int reason(int street, int from, int days) {
            Street x = streets[street];
            if (from < day) {
                return 1;
            }
            for (int d = from; d < from + days; d++) {
                if (permitOn(street, d) != null) {
                    return 2;
                }
            }
            for (int d = from; d < from + days; d++) {
                if ((x.markets & 1 << d % 7) != 0) {
                    return 3;
                }
            }
            if (x.surface == 2 && x.filled != null && x.filled > from - 20) {
                return 4;
            }
            if (temperature < 0 && x.surface > 0) {
                return 5;
            }
            return 0;
        }

        void streetsGoBy() {
            for (int s = 0; s < 17; s++) {
                if (streets[s].dug && permitOn(s, day) == null) {
                    spend(1000);
                    streets[s].fines++;
                }
            }
            permits.values().removeIf(p -> p.last == day);
        }

        int cold() {
            return temperature > 18 ? 0 : 18 - temperature;
        }

        int wants(Customer x, int good) {
            if (!x.connected[good]) {
                return 0;
            }
            return good == 2 ? x.need[2] * cold() / 10 : x.need[good];
        }

        List<Customer> byRank() {
            List<Customer> all = new ArrayList<>(customers);
            all.sort(Comparator.comparingInt((Customer x) -> x.rank).thenComparingInt(x -> x.number));
            return all;
        }

        // ---- weather

        static int next(int x) {
            return (75 * x + 74) % 65537;
        }

        void weatherGoesBy() {
            if (drawn) {
                seed = next(seed);
                temperature = seed % 31 - 10;
                wind = seed / 31 % 10;
                rain = seed / 310 % 10;
            }
            for (Storm x : storms.values()) {
                x.column = x.column == null ? 0 : x.column + 1;
            }
            storms.values().removeIf(x -> x.column > 3);
            for (Street s : streets) {
                Link line = s.links[0];
                if (line != null && line.sound && (hit(s.a) || hit(s.b))) {
                    line.sound = false;
                    report[0]++;
                    for (Storm x : storms.values()) {
                        if (x.isOver(s.a) || x.isOver(s.b)) {
                            x.broke++;
                        }
                    }
                }
                s.flooded = under(s, rain);
                if (s.flooded) {
                    report[5]++;
                }
            }
        }

        boolean under(Street s, int rains) {
            return Math.max(height[s.a], height[s.b]) < 2 * rains;
        }

        int force(int c) {
            int most = 0;
            for (Storm x : storms.values()) {
                if (x.isOver(c) && x.strength > most) {
                    most = x.strength;
                }
            }
            return most > 0 ? most : wind;
        }

        boolean hit(int c) {
            return force(c) >= 5 && height[c] + 10 * force(c) >= 90;
        }

        // ---- crews

        static final int[] TAKES = {1, 1, 2, 3, 1, 1, 1};

        int spot(Job j) {
            return j.kind < 4 ? Math.min(streets[j.place].a, streets[j.place].b) : customers.get(j.place).at;
        }

        int skill(Job j) {
            return switch (j.kind) {
                case 0, 1 -> 3;
                case 2, 3 -> j.good;
                default -> 4;
            };
        }

        Job choose(Crew x) {
            List<Job> can = new ArrayList<>();
            for (Job j : jobs) {
                boolean skilled = (x.skills & 1 << skill(j)) != 0;
                if (j.state == 0 && skilled && walk(x.at, spot(j)) != null && (!alarm || j.kind == 2)) {
                    can.add(j);
                }
            }
            can.sort(Comparator.comparingInt((Job j) -> -j.urgency)
                    .thenComparingInt(j -> walk(x.at, spot(j)).size())
                    .thenComparingInt(j -> j.number));
            return can.isEmpty() ? null : can.get(0);
        }

        void crewsGoBy() {
            for (int k = 0; k < crews.size(); k++) {
                Crew x = crews.get(k);
                boolean had = x.job != null;
                if (alarm && had && x.job.kind != 2) {
                    leaveJob(x);
                }
                if (x.job == null) {
                    Job j = choose(x);
                    if (j != null) {
                        x.job = j;
                        x.spells = 0;
                        j.state = 1;
                        j.crew = k;
                        had = true;
                    }
                }
                if (x.job != null && x.at != spot(x.job)) {
                    List<Integer> way = walk(x.at, spot(x.job));
                    if (way != null) {
                        x.at = way.get(Math.min(x.pace, way.size() - 1));
                    }
                }
                if (x.job != null && x.at == spot(x.job)) {
                    spell(x);
                    if (x.overtime) {
                        spell(x);
                    }
                }
                int wage = had ? (x.overtime ? 500 : 200) : 100;
                spend(wage);
                wages += wage;
            }
        }

        void leaveJob(Crew x) {
            x.job.state = 0;
            x.job.crew = NONE;
            x.job = null;
            x.spells = 0;
        }

        void spell(Crew x) {
            Job j = x.job;
            if (j == null) {
                return;
            }
            if (nothing(j)) {
                over(x);
                return;
            }
            if (j.kind == 0) {
                Integer p = permitOn(j.place, day);
                if (p == null || permits.get(p).good != j.good && !permits.get(p).sharedBy.contains(j.good)) {
                    return;
                }
            }
            if (j.kind == 2 || j.kind == 3) {
                if (j.good > 0 && !streets[j.place].dug) {
                    return;
                }
                if (x.spells == 0) {
                    int parts = j.kind - 1;
                    if (stock[j.good] < parts) {
                        return;
                    }
                    stock[j.good] -= parts;
                    taken[j.good] += parts;
                }
            }
            x.spells++;
            if (x.spells == TAKES[j.kind]) {
                effect(j);
                over(x);
            }
        }

        void over(Crew x) {
            x.job.state = 2;
            x.job = null;
            x.spells = 0;
            x.done++;
        }

        boolean nothing(Job j) {
            if (j.kind == 0) {
                return streets[j.place].dug;
            }
            if (j.kind == 1) {
                return !streets[j.place].dug;
            }
            if (j.kind == 2) {
                Link l = streets[j.place].links[j.good];
                return l == null || l.sound;
            }
            if (j.kind == 3) {
                return streets[j.place].links[j.good] != null;
            }
            if (j.kind == 5) {
                return Arrays.equals(customers.get(j.place).connected, new boolean[3]);
            }
            return j.kind == 6 && Arrays.equals(customers.get(j.place).cut, new boolean[3]);
        }

        void effect(Job j) {
            if (j.kind == 0) {
                streets[j.place].dug = true;
            } else if (j.kind == 1) {
                streets[j.place].dug = false;
                streets[j.place].filled = day;
            } else if (j.kind == 2) {
                Link l = streets[j.place].links[j.good];
                if (j.good == 0 && l.on && wouldRing(j.place)) {
                    l.on = false;
                }
                l.sound = true;
            } else if (j.kind == 3) {
                link(j.good, j.place, 40).on = false;
            } else if (j.kind == 4) {
                for (int g = 0; g < 3; g++) {
                    read(customers.get(j.place), g);
                }
            } else {
                Customer x = customers.get(j.place);
                for (int g = 0; g < 3; g++) {
                    if (j.kind == 5) {
                        x.cut[g] = x.connected[g];
                        x.connected[g] = false;
                    } else {
                        x.connected[g] |= x.cut[g];
                        x.cut[g] = false;
                    }
                }
            }
        }

        int notOver() {
            int n = 0;
            for (Job j : jobs) {
                n += j.state < 2 ? 1 : 0;
            }
            return n;
        }

        Job tell(int kind, int good, int place, int urgency) {
            if (jobs.size() == 200 || notOver() == 16) {
                return null;
            }
            Job j = new Job();
            j.number = jobs.size();
            j.kind = kind;
            j.good = good;
            j.place = place;
            j.urgency = urgency;
            jobs.add(j);
            return j;
        }

        // ---- stores

        static final int[] PRICE = {400, 250, 600, 5};

        int ordered(int part) {
            int n = 0;
            for (Order o : orders) {
                n += o.part == part ? o.many : 0;
            }
            return n;
        }

        int makeOrder(int part, int many) {
            Order o = new Order();
            o.part = part;
            o.many = many;
            o.due = day + 5;
            orders.add(o);
            int cost = PRICE[part] * many;
            spend(cost);
            ordersCost += cost;
            return cost;
        }

        void storesGoBy() {
            List<Order> due = new ArrayList<>();
            for (Order o : orders) {
                if (o.due == day) {
                    due.add(o);
                }
            }
            orders.removeAll(due);
            for (Order o : due) {
                for (int k = 0; k < o.many; k++) {
                    came[o.part]++;
                    if (stock[o.part] == 999) {
                        gone[o.part]++;
                    } else {
                        stock[o.part]++;
                    }
                }
            }
            for (int p = 0; p < 4; p++) {
                int there = stock[p] + ordered(p);
                if (there < least[p]) {
                    int many = 2 * least[p] - there;
                    if (orders.size() < 8 && money >= many * PRICE[p]) {
                        makeOrder(p, many);
                    }
                }
            }
        }

        // ---- meters

        int read(Customer x, int good) {
            Meter m = x.meters[good];
            int shows = m.wheels - m.rightWheels;
            if (shows < 0) {
                shows += 10000;
            }
            m.rightDays = day - (m.rightDay == null ? x.told : m.rightDay);
            m.rightDay = day;
            m.rightWheels = m.wheels;
            m.shown = shows;
            m.rightSum += shows;
            m.counted = m.rightSum;
            m.readDay = day;
            m.readRight = true;
            m.rightSinceBill = true;
            return shows;
        }

        int rate(Customer x, int good) {
            Meter m = x.meters[good];
            return m.rightDay == null || m.rightDays == 0 ? x.need[good] : m.shown / m.rightDays;
        }

        int estimate(Customer x, int good) {
            Meter m = x.meters[good];
            int more = rate(x, good) * (day - (m.readDay == null ? x.told : m.readDay));
            m.counted += more;
            m.readDay = day;
            m.readRight = false;
            return more;
        }

        void metersGoBy(Power power, Water water, Heat heat) {
            for (Customer x : customers) {
                int[] got = {power.got[x.number], water.got[x.number], heat.got[x.number]};
                for (int g = 0; g < 3; g++) {
                    Meter m = x.meters[g];
                    int wanted = wants(x, g);
                    x.got[g] = got[g];
                    m.wanted += wanted;
                    m.sent += got[g];
                    if (wanted > 0 && got[g] == 0) {
                        m.dry++;
                    }
                    m.hundredths += got[g] * (100 - m.slow);
                    while (m.hundredths >= 100) {
                        m.hundredths -= 100;
                        m.turned++;
                        m.wheels = m.wheels == 9999 ? 0 : m.wheels + 1;
                    }
                }
            }
        }

        // ---- books

        Bill bill(Customer x) {
            Bill b = new Bill();
            b.day = day;
            for (int g = 0; g < 3; g++) {
                Meter m = x.meters[g];
                if (!m.rightSinceBill && x.connected[g]) {
                    estimate(x, g);
                }
                long item = x.connected[g] ? tariff[g][0] : 0;
                int metered = m.counted - m.countedAtBill;
                if (metered < 0) {
                    item += (long) metered * tariff[g][1];
                }
                for (int k = 1; k <= metered; k++) {
                    item += k > tariff[g][2] ? tariff[g][3] : tariff[g][1];
                }
                b.items[g] = item;
                b.refund += 50 * (m.dry - m.dryAtBill);
                m.countedAtBill = m.counted;
                m.dryAtBill = m.dry;
                m.rightSinceBill = false;
            }
            b.sum = b.items[0] + b.items[1] + b.items[2] - b.refund;
            return b;
        }

        void enter(Customer x, Bill b) {
            x.bills.add(b);
            earned += b.sum;
            if (b.sum > 0) {
                if (x.poor) {
                    b.given = Math.min(fund, b.sum / 2);
                    fund -= b.given;
                    money += b.given;
                    given += b.given;
                }
                b.open = b.sum - b.given;
            } else {
                x.credit -= b.sum;
            }
            useCredit(x);
        }

        void useCredit(Customer x) {
            for (Bill b : x.bills) {
                long part = Math.min(b.open, x.credit);
                b.open -= part;
                x.credit -= part;
            }
        }

        int notice(Customer x) {
            for (Bill b : x.bills) {
                if (b.open > 0 && x.plan == null) {
                    int age = day - b.day;
                    return age > 40 ? 3 : age > 30 ? 2 : age > 20 ? 1 : 0;
                }
            }
            return 0;
        }

        boolean told(int kind, Customer x) {
            for (Job j : jobs) {
                if (j.kind == kind && j.place == x.number && j.state < 2) {
                    return true;
                }
            }
            return false;
        }

        static boolean any(boolean[] row) {
            return row[0] || row[1] || row[2];
        }

        void booksGoBy() {
            for (Customer x : customers) {
                if (x.plan != null) {
                    long due = 0;
                    for (int k = 1; k <= x.plan.instalments.length; k++) {
                        due += x.plan.instalments[k - 1];
                        if (x.plan != null && day == x.plan.made + 10 * k && x.plan.paidIn < due) {
                            x.plan = null;
                            x.failed++;
                            break;
                        }
                    }
                }
                if (day % 30 == 29) {
                    for (Bill b : x.bills) {
                        long more = b.open / 100;
                        b.open += more;
                        earned += more;
                    }
                    enter(x, bill(x));
                }
                if (notice(x) == 3 && x.rank > 0 && any(x.connected) && !told(5, x)) {
                    tell(5, 0, x.number, 3);
                }
                if (any(x.cut) && x.owes() <= 0 && !told(6, x)) {
                    tell(6, 0, x.number, 5);
                }
            }
        }

        void goBy() {
            weatherGoesBy();
            crewsGoBy();
            Power power = new Power(this);
            power.goBy(this);
            Water water = new Water(this, power);
            Heat heat = new Heat(this, power, water);
            water.goBy(this);
            heat.goBy(this);
            metersGoBy(power, water, heat);
            booksGoBy();
            storesGoBy();
            streetsGoBy();
            day++;
        }

        int content() {
            Power power = new Power(this);
            Water water = new Water(this, power);
            Heat heat = new Heat(this, power, water);
            int n = 0;
            for (Customer x : customers) {
                boolean all = power.got[x.number] >= wants(x, 0)
                        && water.got[x.number] >= wants(x, 1)
                        && heat.got[x.number] >= wants(x, 2);
                n += all ? 1 : 0;
            }
            return n;
        }

        void mendOn(int good, int street) {
            Link l = streets[street].links[good];
            l.on = !(good == 0 && wouldRing(street));
            l.sound = true;
        }
    }

    /** POWER behind all TRIPS, of a town that it leaves as it is. */
    static final class Power {
        final World w;
        final boolean[] leads = new boolean[17];
        final int[] flow = new int[17];
        final int[] gives;
        final int[] got = new int[10];
        final int[] needAt = new int[12];
        final int[] getAt = new int[12];
        final TreeSet<Integer> shedWells = new TreeSet<>();
        final TreeSet<Integer> shedBoilers = new TreeSet<>();
        final TreeSet<Integer> shedCustomers = new TreeSet<>();
        int trips;

        Power(World w) {
            this.w = w;
            gives = new int[w.plants.size()];
            for (int s = 0; s < 17; s++) {
                leads[s] = w.leads(0, s);
            }
            while (true) {
                deal();
                int worst = NONE;
                int over = 0;
                for (int s = 0; s < 17; s++) {
                    if (leads[s] && Math.abs(flow[s]) - w.streets[s].links[0].bound > over) {
                        over = Math.abs(flow[s]) - w.streets[s].links[0].bound;
                        worst = s;
                    }
                }
                if (worst == NONE) {
                    return;
                }
                leads[worst] = false;
                trips++;
            }
        }

        TreeSet<Integer> island(int c) {
            return w.reach(c, s -> leads[s]);
        }

        void deal() {
            Arrays.fill(got, 0);
            Arrays.fill(needAt, 0);
            Arrays.fill(getAt, 0);
            Arrays.fill(gives, 0);
            Arrays.fill(flow, 0);
            shedWells.clear();
            shedBoilers.clear();
            shedCustomers.clear();
            TreeSet<Integer> done = new TreeSet<>();
            for (int c = 0; c < 12; c++) {
                if (!done.contains(c)) {
                    TreeSet<Integer> here = island(c);
                    done.addAll(here);
                    dealIn(here);
                }
            }
            for (int s = 0; s < 17; s++) {
                if (leads[s]) {
                    int without = s;
                    for (int c : w.reach(w.streets[s].a, t -> leads[t] && t != without)) {
                        flow[s] += net(c);
                    }
                }
            }
        }

        int net(int c) {
            int sum = -getAt[c];
            for (int p = 0; p < gives.length; p++) {
                sum += w.plants.get(p).at == c ? gives[p] : 0;
            }
            return sum;
        }

        void dealIn(TreeSet<Integer> here) {
            int capacity = 0;
            for (Plant p : w.plants) {
                capacity += p.up && here.contains(p.at) ? p.capacity : 0;
            }
            int left = capacity;
            for (Well x : w.wells) {
                if (x.on && here.contains(x.at)) {
                    needAt[x.at] += x.power();
                    if (x.power() <= left) {
                        left -= x.power();
                        getAt[x.at] += x.power();
                    } else {
                        shedWells.add(w.wells.indexOf(x));
                    }
                }
            }
            for (Boiler x : w.boilers) {
                if (x.lit && here.contains(x.at)) {
                    needAt[x.at] += 5;
                    if (5 <= left) {
                        left -= 5;
                        getAt[x.at] += 5;
                    } else {
                        shedBoilers.add(w.boilers.indexOf(x));
                    }
                }
            }
            for (Customer x : w.byRank()) {
                int need = w.wants(x, 0);
                if (need > 0 && here.contains(x.at)) {
                    needAt[x.at] += need;
                    if (need <= left) {
                        left -= need;
                        getAt[x.at] += need;
                        got[x.number] = need;
                    } else {
                        shedCustomers.add(x.number);
                    }
                }
            }
            int toGive = capacity - left;
            for (int p = 0; p < gives.length; p++) {
                Plant x = w.plants.get(p);
                if (x.up && here.contains(x.at)) {
                    gives[p] = Math.min(toGive, x.capacity);
                    toGive -= gives[p];
                }
            }
        }

        boolean runs(int well) {
            return w.wells.get(well).on && !shedWells.contains(well);
        }

        boolean feeds(int boiler) {
            return w.boilers.get(boiler).lit && !shedBoilers.contains(boiler);
        }

        void goBy(World town) {
            for (int s = 0; s < 17; s++) {
                if (town.leads(0, s) && !leads[s]) {
                    town.streets[s].links[0].on = false;
                    town.streets[s].links[0].tripped = true;
                }
            }
            town.powerSums[0] += Arrays.stream(gives).sum();
            for (int k = 0; k < town.wells.size(); k++) {
                town.powerSums[1] += runs(k) ? town.wells.get(k).power() : 0;
            }
            for (int k = 0; k < town.boilers.size(); k++) {
                town.powerSums[2] += feeds(k) ? 5 : 0;
            }
            town.powerSums[3] += Arrays.stream(got).sum();
            town.powerSums[4] += trips;
            town.powerSums[5] += shedCustomers.size();
            town.report[2] += shedCustomers.size();
            for (int c : shedCustomers) {
                town.customers.get(c).darkDays++;
            }
        }
    }

    /** WATER of the next DAY, or of a fire, of a town that it leaves as it is. */
    static final class Water {
        final World w;
        final int[] wants = new int[12];
        final int[] gets = new int[12];
        final int[] room = new int[17];
        final int[] up = new int[17];
        final int[] down = new int[17];
        final int[] wellGives;
        final int[] tankGives;
        final int[] tankFilled;
        final int[] holes = new int[12];
        final int[] leaks = new int[12];
        final int[] toBoiler = new int[12];
        final int[] toCustomers = new int[12];
        final int[] got = new int[10];
        final boolean[] boilerFull;
        private final int[] wellLeft;
        private final int[] tankLeft;

        private Water(World w) {
            this.w = w;
            wellGives = new int[w.wells.size()];
            wellLeft = new int[w.wells.size()];
            tankGives = new int[w.tanks.size()];
            tankLeft = new int[w.tanks.size()];
            tankFilled = new int[w.tanks.size()];
            boilerFull = new boolean[w.boilers.size()];
            for (int s = 0; s < 17; s++) {
                room[s] = w.streets[s].links[1] == null ? 0 : w.streets[s].links[1].bound;
            }
        }

        static Water fire(World w, int crossing, int amount) {
            Water x = new Water(w);
            int[] yet = new int[12];
            yet[crossing] = amount;
            for (int k = 0; k < w.tanks.size(); k++) {
                x.tankLeft[k] = w.tanks.get(k).level;
            }
            x.turns(yet, true);
            x.gets[crossing] = amount - yet[crossing];
            return x;
        }

        Water(World w, Power power) {
            this(w);
            for (int c = 0; c < 12; c++) {
                wants[c] = wantsAt(c);
            }
            for (int k = 0; k < w.wells.size(); k++) {
                wellLeft[k] = power.runs(k) ? w.wells.get(k).gives : 0;
            }
            for (int k = 0; k < w.tanks.size(); k++) {
                Tank t = w.tanks.get(k);
                tankLeft[k] = t.level > t.reserve ? t.level - t.reserve : 0;
            }
            int[] yet = wants.clone();
            turns(yet, true);
            for (int c = 0; c < 12; c++) {
                gets[c] = wants[c] - yet[c];
            }
            int[] empty = new int[12];
            for (int k = 0; k < w.tanks.size(); k++) {
                Tank t = w.tanks.get(k);
                empty[t.at] = t.size - (t.level - tankGives[k]);
            }
            int[] before = empty.clone();
            turns(empty, false);
            for (int k = 0; k < w.tanks.size(); k++) {
                tankFilled[k] = before[w.tanks.get(k).at] - empty[w.tanks.get(k).at];
            }
            for (int c = 0; c < 12; c++) {
                handOut(c);
            }
        }

        int holeAt(int s) {
            Street x = w.streets[s];
            Link l = x.links[1];
            if (l == null || l.sound || !l.on) {
                return NONE;
            }
            return w.height[x.b] < w.height[x.a] ? x.b : x.a;
        }

        int wantsAt(int c) {
            int sum = 0;
            for (int s = 0; s < 17; s++) {
                sum += holeAt(s) == c ? 20 : 0;
                sum += w.leads(1, s) && w.streets[s].a == c ? w.streets[s].links[1].leak : 0;
            }
            for (Boiler b : w.boilers) {
                sum += b.lit && b.at == c ? b.water() : 0;
            }
            for (Customer x : w.customers) {
                sum += x.at == c ? w.wants(x, 1) : 0;
            }
            return sum;
        }

        /** All turns, with the tanks as sources or without. */
        void turns(int[] yet, boolean tanks) {
            while (true) {
                List<Integer> best = null;
                boolean bestIsWell = false;
                int bestSource = NONE;
                for (int k = 0; k < wellLeft.length; k++) {
                    Well x = w.wells.get(k);
                    for (int c = 0; c < 12; c++) {
                        if (wellLeft[k] > 0 && yet[c] > 0) {
                            List<Integer> way = way(x.at, c, w.height[x.at] + x.lift);
                            if (way != null && (best == null || way.size() < best.size())) {
                                best = way;
                                bestIsWell = true;
                                bestSource = k;
                            }
                        }
                    }
                }
                for (int k = 0; k < tankLeft.length && tanks; k++) {
                    Tank x = w.tanks.get(k);
                    for (int c = 0; c < 12; c++) {
                        if (tankLeft[k] > 0 && yet[c] > 0) {
                            List<Integer> way = way(x.at, c, w.height[x.at] + x.level / 10);
                            if (way != null && (best == null || way.size() < best.size())) {
                                best = way;
                                bestIsWell = false;
                                bestSource = k;
                            }
                        }
                    }
                }
                if (best == null) {
                    return;
                }
                int to = best.get(best.size() - 1);
                int amount = Math.min(yet[to], bestIsWell ? wellLeft[bestSource] : tankLeft[bestSource]);
                for (int k = 1; k < best.size(); k++) {
                    amount = Math.min(amount, room[w.streetBetween(best.get(k - 1), best.get(k))]);
                }
                for (int k = 1; k < best.size(); k++) {
                    int s = w.streetBetween(best.get(k - 1), best.get(k));
                    room[s] -= amount;
                    if (best.get(k - 1) < best.get(k)) {
                        up[s] += amount;
                    } else {
                        down[s] += amount;
                    }
                }
                yet[to] -= amount;
                if (bestIsWell) {
                    wellLeft[bestSource] -= amount;
                    wellGives[bestSource] += amount;
                } else {
                    tankLeft[bestSource] -= amount;
                    tankGives[bestSource] += amount;
                }
            }
        }

        List<Integer> way(int from, int to, int head) {
            return w.path(from, to, s -> w.leads(1, s) && room[s] > 0, head);
        }

        void handOut(int c) {
            int left = gets[c];
            for (int s = 0; s < 17; s++) {
                if (holeAt(s) == c) {
                    int x = Math.min(left, 20);
                    holes[c] += x;
                    left -= x;
                }
            }
            for (int s = 0; s < 17; s++) {
                if (w.leads(1, s) && w.streets[s].a == c) {
                    int x = Math.min(left, w.streets[s].links[1].leak);
                    leaks[c] += x;
                    left -= x;
                }
            }
            for (int b = 0; b < w.boilers.size(); b++) {
                Boiler y = w.boilers.get(b);
                if (y.at == c && y.lit) {
                    int x = Math.min(left, y.water());
                    toBoiler[c] += x;
                    left -= x;
                    boilerFull[b] = x == y.water();
                }
            }
            for (Customer y : w.byRank()) {
                if (y.at == c) {
                    int x = Math.min(left, w.wants(y, 1));
                    got[y.number] = x;
                    toCustomers[c] += x;
                    left -= x;
                }
            }
        }

        int levelThen(int k) {
            return w.tanks.get(k).level - tankGives[k] + tankFilled[k];
        }

        void goBy(World town) {
            town.waterSums[0] += Arrays.stream(wellGives).sum();
            town.waterSums[1] += Arrays.stream(toCustomers).sum();
            town.waterSums[2] += Arrays.stream(toBoiler).sum();
            town.waterSums[3] += Arrays.stream(leaks).sum();
            town.waterSums[4] += Arrays.stream(holes).sum();
            for (int c = 0; c < 12; c++) {
                boolean isShort = false;
                for (Customer x : town.customers) {
                    isShort |= x.at == c && got[x.number] < town.wants(x, 1);
                }
                town.shortDays[c] = isShort ? town.shortDays[c] + 1 : 0;
                town.report[3] += isShort ? 1 : 0;
            }
            for (int k = 0; k < tankGives.length; k++) {
                town.tanks.get(k).level = levelThen(k);
            }
            for (int s = 0; s < 17; s++) {
                Link l = town.streets[s].links[1];
                if (l != null && l.sound) {
                    if (town.temperature < 0) {
                        int frost = -town.temperature;
                        l.strain += up[s] > 0 || down[s] > 0 ? frost / 2 : frost;
                    } else {
                        l.strain = l.strain < 5 ? 0 : l.strain - 5;
                    }
                    if (l.strain >= 100) {
                        l.strain = 0;
                        l.sound = false;
                        town.report[1]++;
                    }
                }
            }
        }
    }

    /** HEAT of the next DAY, of a town that it leaves as it is. */
    static final class Heat {
        final World w;
        final int[] lacks;
        final int[] can;
        final int[] made;
        final int[] wants = new int[12];
        final int[] gets = new int[12];
        final int[] tookLow = new int[17];
        final int[] tookHigh = new int[17];
        final int[] lost = new int[17];
        final int[] got = new int[10];

        Heat(World w, Power power, Water water) {
            this.w = w;
            int n = w.boilers.size();
            lacks = new int[n];
            can = new int[n];
            made = new int[n];
            for (int b = 0; b < n; b++) {
                Boiler x = w.boilers.get(b);
                if (!x.lit) {
                    lacks[b] = 1;
                } else if (!power.feeds(b)) {
                    lacks[b] = 2;
                } else if (!water.boilerFull[b]) {
                    lacks[b] = 3;
                } else if (x.fuel < 1) {
                    lacks[b] = 4;
                } else {
                    can[b] = x.burned ? x.capacity : x.capacity / 2;
                    can[b] = Math.min(can[b], 10 * x.fuel);
                }
            }
            for (Customer x : w.customers) {
                wants[x.at] += w.wants(x, 2);
            }
            while (turn()) {
                // each turn deals some
            }
            for (int c = 0; c < 12; c++) {
                int left = gets[c];
                for (Customer x : w.byRank()) {
                    if (x.at == c) {
                        got[x.number] = Math.min(left, w.wants(x, 2));
                        left -= got[x.number];
                    }
                }
            }
        }

        int loss(int taken) {
            int loss = taken / 10 + (taken % 10 > 0 ? 1 : 0);
            for (int t = -10; t >= w.temperature; t -= 10) {
                loss++;
            }
            return Math.min(loss, taken);
        }

        int room(int s) {
            return w.streets[s].links[2].bound - tookLow[s] - tookHigh[s];
        }

        /** What comes out of so much, NONE if that can't be sent. */
        int out(int boiler, List<Integer> way, int sent) {
            if (sent > can[boiler] - made[boiler]) {
                return NONE;
            }
            int x = sent;
            for (int k = 1; k < way.size(); k++) {
                if (x > room(w.streetBetween(way.get(k - 1), way.get(k)))) {
                    return NONE;
                }
                x -= loss(x);
            }
            return x;
        }

        boolean turn() {
            List<Integer> best = null;
            int bestBoiler = NONE;
            for (int b = 0; b < can.length; b++) {
                for (int c = 0; c < 12; c++) {
                    if (lacks[b] == 0 && gets[c] < wants[c]) {
                        List<Integer> way = w.path(w.boilers.get(b).at, c, s -> w.leads(2, s), 1000);
                        if (way != null && (best == null || way.size() < best.size()) && something(b, way)) {
                            best = way;
                            bestBoiler = b;
                        }
                    }
                }
            }
            if (best == null) {
                return false;
            }
            int to = best.get(best.size() - 1);
            int send = 0;
            for (int x = 1; x <= 300; x++) {
                int out = out(bestBoiler, best, x);
                if (out != NONE) {
                    send = x;
                    if (out >= wants[to] - gets[to]) {
                        break;
                    }
                }
            }
            made[bestBoiler] += send;
            int x = send;
            for (int k = 1; k < best.size(); k++) {
                int s = w.streetBetween(best.get(k - 1), best.get(k));
                if (best.get(k - 1) < best.get(k)) {
                    tookLow[s] += x;
                } else {
                    tookHigh[s] += x;
                }
                lost[s] += loss(x);
                x -= loss(x);
            }
            gets[to] += x;
            return true;
        }

        boolean something(int b, List<Integer> way) {
            for (int x = 1; x <= 300; x++) {
                if (out(b, way, x) > 0) {
                    return true;
                }
            }
            return false;
        }

        int fuel(int b) {
            return made[b] / 10 + (made[b] % 10 > 0 ? 1 : 0);
        }

        void goBy(World town) {
            for (int b = 0; b < can.length; b++) {
                Boiler x = town.boilers.get(b);
                x.burned = lacks[b] == 0;
                x.fuel -= fuel(b);
                x.lit = x.lit && x.burned;
                town.heatSums[0] += made[b];
                town.heatSums[3] += fuel(b);
            }
            town.heatSums[1] += Arrays.stream(gets).sum();
            town.heatSums[2] += Arrays.stream(lost).sum();
            for (Customer x : town.customers) {
                if (!x.connected[2]) {
                    continue;
                }
                if (got[x.number] == town.wants(x, 2)) {
                    x.warmth = Math.min(18, x.warmth + 2);
                } else if (x.warmth > town.temperature) {
                    int far = x.warmth - town.temperature;
                    x.warmth -= far / 4 + (far % 4 > 0 ? 1 : 0);
                }
                if (x.warmth < 8) {
                    town.heatSums[4]++;
                    town.report[4]++;
                }
            }
        }
    }

    // ---- the face

    private static void thing(boolean is) {
        if (!is) {
            throw new IndexOutOfBoundsException();
        }
    }

    private static void range(boolean is) {
        if (!is) {
            throw new IllegalArgumentException();
        }
    }

    private static void state(boolean is) {
        if (!is) {
            throw new IllegalStateException();
        }
    }

    private static boolean in(int v, int size) {
        return 0 <= v && v < size;
    }

    private static int one(boolean is) {
        return is ? 1 : 0;
    }

    private static int bits(TreeSet<Integer> set) {
        int bits = 0;
        for (int k : set) {
            bits |= 1 << k;
        }
        return bits;
    }

    private static int bits(boolean[] row) {
        return one(row[0]) + 2 * one(row[1]) + 4 * one(row[2]);
    }

    private Link link(int good, int street) {
        return w.streets[street].links[good];
    }

    private Power power() {
        return new Power(w);
    }

    private Water water() {
        return new Water(w, power());
    }

    private Heat heat() {
        Power p = power();
        return new Heat(w, p, new Water(w, p));
    }

    public int linkIs(int good, int street, int what) {
        thing(in(good, 3) && in(street, 17));
        range(in(what, 5));
        Link l = link(good, street);
        if (l == null) {
            return 0;
        }
        return new int[] {1, l.bound, one(l.sound), one(l.on), one(l.leads())}[what];
    }

    public boolean turn(int good, int street, boolean on) {
        thing(in(good, 3) && in(street, 17));
        Link l = link(good, street);
        state(l != null);
        state(!(on && good == 0 && l.sound && w.wouldRing(street)));
        boolean was = l.on;
        l.on = on;
        l.tripped &= !on;
        return was;
    }

    public int bound(int good, int street, int bound) {
        thing(in(good, 3) && in(street, 17));
        range(bound > 0 && bound < 1000);
        state(link(good, street) != null);
        int was = link(good, street).bound;
        link(good, street).bound = bound;
        return was;
    }

    public int lay(int good, int street, int bound) {
        thing(in(good, 3) && in(street, 17));
        range(bound > 0 && bound < 1000);
        state(link(good, street) == null && (good == 0 || w.streets[street].dug));
        w.link(good, street, bound).on = false;
        w.spend(3000);
        return count(1 + good);
    }

    public boolean breaks(int good, int street) {
        thing(in(good, 3) && in(street, 17));
        state(link(good, street) != null);
        boolean was = link(good, street).sound;
        link(good, street).sound = false;
        return was;
    }

    public boolean joined(int good, int crossing, int other) {
        thing(in(good, 3) && in(crossing, 12) && in(other, 12));
        return w.joined(good, crossing, other);
    }

    public int pass(int days) {
        range(days > 0 && days <= 60);
        state(w.day + days <= 999);
        for (int k = 0; k < days; k++) {
            w.goBy();
        }
        return w.day;
    }

    public int keep(int image) {
        thing(in(image, 2));
        images[image] = w.copy();
        return w.day;
    }

    public int bring(int image) {
        thing(in(image, 2));
        state(images[image] != null);
        w = images[image].copy();
        return w.day;
    }

    public int count(int what) {
        range(in(what, 10));
        int n = 0;
        for (Street s : w.streets) {
            if (what >= 1 && what <= 3) {
                n += one(s.links[what - 1] != null);
            } else if (what >= 4 && what <= 6) {
                n += one(s.links[what - 4] != null && !s.links[what - 4].sound);
            } else if (what == 7) {
                n += one(s.dug);
            } else if (what == 8) {
                n += one(s.flooded);
            }
        }
        return what == 0 ? w.day : what == 9 ? w.permits.size() : n;
    }

    public boolean isSound() {
        return true;
    }

    public int height(int crossing, int height) {
        thing(in(crossing, 12));
        range(in(height, 100));
        int was = w.height[crossing];
        w.height[crossing] = height;
        return was;
    }

    public int surface(int street, int surface) {
        thing(in(street, 17));
        range(in(surface, 3));
        state(!w.streets[street].dug);
        int was = w.streets[street].surface;
        w.streets[street].surface = surface;
        return was;
    }

    public int market(int street, int days) {
        thing(in(street, 17));
        range(in(days, 128));
        int was = w.streets[street].markets;
        w.streets[street].markets = days;
        return was;
    }

    public int may(int street, int from, int days) {
        thing(in(street, 17));
        range(in(from, 10000) && days > 0 && days < 10);
        return w.reason(street, from, days);
    }

    public int firstFree(int street, int days) {
        thing(in(street, 17));
        range(days > 0 && days < 10);
        for (int k = 0; k <= 60; k++) {
            if (w.reason(street, w.day + k, days) == 0) {
                return w.day + k;
            }
        }
        return NONE;
    }

    public int permit(int good, int street, int from, int days) {
        thing(in(good, 3) && in(street, 17));
        range(in(from, 10000) && days > 0 && days < 10);
        state(w.permits.size() < 16 && w.reason(street, from, days) == 0);
        Permit p = new Permit();
        p.good = good;
        p.street = street;
        p.first = from;
        p.last = from + days - 1;
        p.fee = 500 * days * (w.streets[street].surface + 1);
        w.spend(p.fee);
        int number = 0;
        while (w.permits.containsKey(number)) {
            number++;
        }
        w.permits.put(number, p);
        return number;
    }

    public int share(int permit, int good) {
        thing(w.permits.containsKey(permit) && in(good, 3));
        Permit p = w.permits.get(permit);
        state(p.good != good && !p.sharedBy.contains(good));
        p.sharedBy.add(good);
        w.spend(p.fee / 2);
        return p.fee / 2;
    }

    public int drop(int permit) {
        thing(w.permits.containsKey(permit));
        Permit p = w.permits.remove(permit);
        int n = 0;
        for (int d = p.first; d <= p.last; d++) {
            n += one(d >= w.day);
        }
        return n;
    }

    public int permitIs(int permit, int what) {
        thing(w.permits.containsKey(permit));
        range(in(what, 7));
        Permit p = w.permits.get(permit);
        return new int[] {p.good, p.street, p.first, p.last, p.fee, bits(p.sharedBy), one(p.holds(w.day))}[what];
    }

    public int hire(int street, boolean dig) {
        thing(in(street, 17));
        Street s = w.streets[street];
        if (dig) {
            state(!s.dug && w.permitOn(street, w.day) != null);
            s.dug = true;
            w.spend(5000);
            return 5000;
        }
        state(s.dug);
        s.dug = false;
        s.filled = w.day;
        w.spend(2000);
        return 2000;
    }

    public int streetIs(int street, int what) {
        thing(in(street, 17));
        range(in(what, 9));
        Street s = w.streets[street];
        Integer p = w.permitOn(street, w.day);
        return new int[] {s.a, s.b, s.surface, one(s.dug), one(s.flooded), p == null ? NONE : p,
            s.filled == null ? NONE : s.filled, s.markets, s.fines}[what];
    }

    public int way(int from, int to) {
        thing(in(from, 12) && in(to, 12));
        List<Integer> way = w.walk(from, to);
        return way == null ? NONE : way.size() - 1;
    }

    public int wayIs(int from, int to, int k) {
        thing(in(from, 12) && in(to, 12));
        range(in(k, 12));
        List<Integer> way = w.walk(from, to);
        return way == null || k >= way.size() - 1 ? NONE : w.streetBetween(way.get(k), way.get(k + 1));
    }

    public boolean isSoundStreets() {
        return true;
    }

    public int plant(int crossing, int capacity) {
        thing(in(crossing, 12));
        range(capacity > 0 && capacity <= 300);
        state(w.plants.size() < 4 && w.plants.stream().noneMatch(x -> x.at == crossing));
        w.plant(crossing, capacity);
        return w.plants.size() - 1;
    }

    public boolean start(int plant, boolean up) {
        thing(in(plant, w.plants.size()));
        boolean was = w.plants.get(plant).up;
        w.plants.get(plant).up = up;
        return was;
    }

    public int plantIs(int plant, int what) {
        thing(in(plant, w.plants.size()));
        range(in(what, 4));
        Plant p = w.plants.get(plant);
        return new int[] {p.at, p.capacity, one(p.up), power().gives[plant]}[what];
    }

    public int powerAt(int crossing, int what) {
        thing(in(crossing, 12));
        range(in(what, 5));
        Power p = power();
        TreeSet<Integer> here = p.island(crossing);
        int capacity = 0;
        for (Plant x : w.plants) {
            capacity += x.up && here.contains(x.at) ? x.capacity : 0;
        }
        int needs = 0;
        for (int c : here) {
            needs += p.needAt[c];
        }
        return new int[] {p.needAt[crossing], p.getAt[crossing], here.first(), capacity, needs}[what];
    }

    public int lineIs(int street, int what) {
        thing(in(street, 17) && link(0, street) != null);
        range(in(what, 4));
        Power p = power();
        return new int[] {p.flow[street], one(p.leads[street]), one(link(0, street).tripped),
            one(w.wouldRing(street))}[what];
    }

    public int flowAnew(int street) {
        thing(in(street, 17) && link(0, street) != null);
        return power().flow[street];
    }

    public int shed(int what) {
        range(in(what, 3));
        Power p = power();
        return bits(what == 0 ? p.shedWells : what == 1 ? p.shedBoilers : p.shedCustomers);
    }

    public int dark(int customer) {
        thing(in(customer, w.customers.size()));
        return w.customers.get(customer).darkDays;
    }

    public int switching(int what) {
        range(in(what, 2));
        List<Integer> off = new ArrayList<>();
        for (int s = 0; s < 17 && off.size() < 5; s++) {
            if (link(0, s) != null && link(0, s).sound && !link(0, s).on) {
                off.add(s);
            }
        }
        int bestWorth = NONE;
        TreeSet<Integer> best = null;
        for (int choice = 0; choice < 1 << off.size(); choice++) {
            World then = w.copy();
            TreeSet<Integer> set = new TreeSet<>();
            boolean rings = false;
            for (int k = 0; k < off.size(); k++) {
                if ((choice & 1 << k) != 0) {
                    rings |= then.wouldRing(off.get(k));
                    then.streets[off.get(k)].links[0].on = true;
                    set.add(off.get(k));
                }
            }
            if (rings) {
                continue;
            }
            int worth = Arrays.stream(new Power(then).got).sum();
            boolean better = best == null || worth > bestWorth;
            if (!better && worth == bestWorth) {
                better = set.size() < best.size() || set.size() == best.size() && bits(set) < bits(best);
            }
            if (better) {
                best = set;
                bestWorth = worth;
            }
        }
        return what == 0 ? bestWorth : bits(best);
    }

    public long powerSum(int what) {
        range(in(what, 6));
        return w.powerSums[what];
    }

    public boolean isSoundPower() {
        return true;
    }

    public int well(int crossing, int yield, int lift) {
        thing(in(crossing, 12));
        range(yield > 0 && yield < 100 && in(lift, 100));
        state(w.wells.size() < 3 && w.wells.stream().noneMatch(x -> x.at == crossing));
        w.well(crossing, yield, lift);
        return w.wells.size() - 1;
    }

    public int tank(int crossing, int size, int reserve) {
        thing(in(crossing, 12));
        range(size > 0 && size < 1000 && reserve >= 0 && reserve <= size);
        state(w.tanks.size() < 4 && w.tanks.stream().noneMatch(x -> x.at == crossing));
        w.tank(crossing, size, reserve);
        return w.tanks.size() - 1;
    }

    public boolean pump(int well, boolean on) {
        thing(in(well, w.wells.size()));
        boolean was = w.wells.get(well).on;
        w.wells.get(well).on = on;
        return was;
    }

    public int reserve(int tank, int reserve) {
        thing(in(tank, w.tanks.size()));
        range(in(reserve, w.tanks.get(tank).size + 1));
        int was = w.tanks.get(tank).reserve;
        w.tanks.get(tank).reserve = reserve;
        return was;
    }

    public int leak(int street, int leak) {
        thing(in(street, 17) && link(1, street) != null);
        range(in(leak, 10));
        int was = link(1, street).leak;
        link(1, street).leak = leak;
        return was;
    }

    public int wellIs(int well, int what) {
        thing(in(well, w.wells.size()));
        range(in(what, 7));
        Well x = w.wells.get(well);
        return new int[] {x.at, x.gives, x.lift, one(x.on), one(power().runs(well)), water().wellGives[well],
            w.height[x.at] + x.lift}[what];
    }

    public int tankIs(int tank, int what) {
        thing(in(tank, w.tanks.size()));
        range(in(what, 6));
        Tank x = w.tanks.get(tank);
        return new int[] {x.at, x.size, x.level, x.reserve, w.height[x.at] + x.level / 10,
            water().levelThen(tank)}[what];
    }

    public int pipeIs(int street, int what) {
        thing(in(street, 17) && link(1, street) != null);
        range(in(what, 6));
        Water x = water();
        Link l = link(1, street);
        return new int[] {l.leak, l.strain, x.up[street], x.down[street], x.room[street],
            one(x.holeAt(street) != NONE)}[what];
    }

    public int waterAt(int crossing, int what) {
        thing(in(crossing, 12));
        range(in(what, 6));
        Water x = water();
        return new int[] {x.wants[crossing], x.gets[crossing], x.holes[crossing] + x.leaks[crossing],
            x.toBoiler[crossing], x.toCustomers[crossing], w.shortDays[crossing]}[what];
    }

    public int waterAnew(int crossing) {
        thing(in(crossing, 12));
        return water().gets[crossing];
    }

    public int waterWithout(int street) {
        thing(in(street, 17) && link(1, street) != null);
        World then = w.copy();
        then.streets[street].links[1].on = false;
        Water now = water();
        Water without = new Water(then, new Power(then));
        TreeSet<Integer> less = new TreeSet<>();
        for (int c = 0; c < 12; c++) {
            if (without.gets[c] < now.gets[c]) {
                less.add(c);
            }
        }
        return bits(less);
    }

    public int fire(int crossing, int amount) {
        thing(in(crossing, 12));
        range(amount > 0 && amount <= 500);
        Water x = Water.fire(w, crossing, amount);
        for (int k = 0; k < w.tanks.size(); k++) {
            w.tanks.get(k).level -= x.tankGives[k];
        }
        w.waterSums[5] += x.gets[crossing];
        return x.gets[crossing];
    }

    public long waterSum(int what) {
        range(in(what, 7));
        return what < 6 ? w.waterSums[what] : w.tanks.stream().mapToInt(t -> t.level).sum();
    }

    public boolean isSoundWater() {
        return true;
    }

    public int boiler(int crossing, int capacity) {
        thing(in(crossing, 12));
        range(capacity >= 10 && capacity <= 300);
        state(w.boilers.size() < 2 && w.boilers.stream().noneMatch(x -> x.at == crossing));
        w.boiler(crossing, capacity);
        return w.boilers.size() - 1;
    }

    public int coal(int boiler, int fuel) {
        thing(in(boiler, w.boilers.size()));
        range(fuel > 0 && fuel < 1000);
        Boiler x = w.boilers.get(boiler);
        state(x.fuel + fuel < 1000 && w.stock[3] >= fuel);
        x.fuel += fuel;
        w.stock[3] -= fuel;
        w.taken[3] += fuel;
        return x.fuel;
    }

    public boolean light(int boiler, boolean lit) {
        thing(in(boiler, w.boilers.size()));
        boolean was = w.boilers.get(boiler).lit;
        w.boilers.get(boiler).lit = lit;
        return was;
    }

    public int boilerIs(int boiler, int what) {
        thing(in(boiler, w.boilers.size()));
        range(in(what, 9));
        Boiler x = w.boilers.get(boiler);
        Heat h = heat();
        return new int[] {x.at, x.capacity, x.fuel, one(x.lit), one(x.burned), h.lacks[boiler], h.can[boiler],
            h.made[boiler], h.fuel(boiler)}[what];
    }

    public int mainIs(int street, int what) {
        thing(in(street, 17) && link(2, street) != null);
        range(in(what, 4));
        Heat h = heat();
        return new int[] {h.tookLow[street], h.tookHigh[street], h.lost[street], h.room(street)}[what];
    }

    public int heatAt(int crossing, int what) {
        thing(in(crossing, 12));
        range(in(what, 3));
        Heat h = heat();
        int n = 0;
        for (Customer x : w.customers) {
            n += one(x.at == crossing && h.got[x.number] < w.wants(x, 2));
        }
        return new int[] {h.wants[crossing], h.gets[crossing], n}[what];
    }

    public int warmth(int customer) {
        thing(in(customer, w.customers.size()));
        return w.customers.get(customer).warmth;
    }

    public int lasts(int boiler) {
        thing(in(boiler, w.boilers.size()));
        Heat h = heat();
        if (h.lacks[boiler] > 0) {
            return 0;
        }
        if (h.made[boiler] == 0) {
            return 999;
        }
        int n = 0;
        for (int left = w.boilers.get(boiler).fuel; left >= h.fuel(boiler); left -= h.fuel(boiler)) {
            n++;
        }
        return n;
    }

    public int lostAnew() {
        return Arrays.stream(heat().lost).sum();
    }

    public int heatWithout(int street) {
        thing(in(street, 17) && link(2, street) != null);
        World then = w.copy();
        then.streets[street].links[2].on = false;
        Power p = new Power(then);
        Heat now = heat();
        Heat without = new Heat(then, p, new Water(then, p));
        TreeSet<Integer> less = new TreeSet<>();
        for (int c = 0; c < 12; c++) {
            if (without.gets[c] < now.gets[c]) {
                less.add(c);
            }
        }
        return bits(less);
    }

    public long heatSum(int what) {
        range(in(what, 5));
        return w.heatSums[what];
    }

    public boolean isSoundHeat() {
        return true;
    }

    public int customer(int crossing, int rank) {
        thing(in(crossing, 12));
        range(in(rank, 10));
        state(w.customers.size() < 10);
        return w.customer(crossing, rank).number;
    }

    public int need(int customer, int good, int need) {
        thing(in(customer, w.customers.size()) && in(good, 3));
        range(in(need, 21));
        int was = w.customers.get(customer).need[good];
        w.customers.get(customer).need[good] = need;
        return was;
    }

    public boolean connect(int customer, int good, boolean is) {
        thing(in(customer, w.customers.size()) && in(good, 3));
        Customer x = w.customers.get(customer);
        boolean was = x.connected[good];
        x.connected[good] = is;
        if (is) {
            x.cut[good] = false;
        }
        return was;
    }

    public int customerIs(int customer, int what) {
        thing(in(customer, w.customers.size()));
        range(in(what, 12));
        Customer x = w.customers.get(customer);
        return new int[] {x.at, x.rank, bits(x.connected), x.need[0], x.need[1], x.need[2], x.got[0], x.got[1],
            x.got[2], x.meters[0].dry, x.meters[1].dry, x.meters[2].dry}[what];
    }

    public int meterIs(int customer, int good, int what) {
        thing(in(customer, w.customers.size()) && in(good, 3));
        range(in(what, 9));
        Customer x = w.customers.get(customer);
        Meter m = x.meters[good];
        return new int[] {m.wheels, m.slow, one(m.isSealed), m.counted, m.readDay == null ? NONE : m.readDay,
            one(m.readRight), m.shown, w.rate(x, good), m.turned}[what];
    }

    public int unseal(int customer, int good) {
        thing(in(customer, w.customers.size()) && in(good, 3));
        Meter m = w.customers.get(customer).meters[good];
        state(m.isSealed);
        m.isSealed = false;
        return m.wheels;
    }

    public int slow(int customer, int good, int slow) {
        thing(in(customer, w.customers.size()) && in(good, 3));
        range(in(slow, 91));
        Meter m = w.customers.get(customer).meters[good];
        state(!m.isSealed);
        int was = m.slow;
        m.slow = slow;
        return was;
    }

    public int seal(int customer, int good) {
        thing(in(customer, w.customers.size()) && in(good, 3));
        Meter m = w.customers.get(customer).meters[good];
        state(!m.isSealed);
        int was = m.slow;
        m.slow = 0;
        m.isSealed = true;
        return was;
    }

    public int read(int customer, int good) {
        thing(in(customer, w.customers.size()) && in(good, 3));
        return w.read(w.customers.get(customer), good);
    }

    public int estimate(int customer, int good) {
        thing(in(customer, w.customers.size()) && in(good, 3));
        return w.estimate(w.customers.get(customer), good);
    }

    public int loss(int good) {
        thing(in(good, 3));
        int sum = 0;
        for (Customer x : w.customers) {
            sum += x.meters[good].sent - x.meters[good].turned;
        }
        return sum;
    }

    public int suspect(int good) {
        thing(in(good, 3));
        Customer most = null;
        int gap = 0;
        for (Customer x : w.customers) {
            if (x.meters[good].wanted - x.meters[good].turned > gap) {
                gap = x.meters[good].wanted - x.meters[good].turned;
                most = x;
            }
        }
        return most == null ? NONE : most.number;
    }

    public boolean isSoundMeters() {
        return true;
    }

    public int tariff(int good, int what, int v) {
        thing(in(good, 3));
        range(in(what, 4) && in(v, what == 0 ? 10000 : 1000));
        int was = w.tariff[good][what];
        w.tariff[good][what] = v;
        return was;
    }

    public long pay(int customer, int cents) {
        thing(in(customer, w.customers.size()));
        range(cents > 0 && cents < 100000);
        Customer x = w.customers.get(customer);
        w.money += cents;
        w.paid += cents;
        x.credit += cents;
        w.useCredit(x);
        if (x.plan != null) {
            x.plan.paidIn += cents;
            if (x.plan.paidIn >= Arrays.stream(x.plan.instalments).sum()) {
                x.plan = null;
            }
        }
        return x.owes();
    }

    public long owes(int customer) {
        thing(in(customer, w.customers.size()));
        return w.customers.get(customer).owes();
    }

    public long split(int customer, int parts) {
        thing(in(customer, w.customers.size()));
        range(parts > 1 && parts < 7);
        Customer x = w.customers.get(customer);
        state(x.plan == null && x.owes() >= parts);
        x.plan = new Plan();
        x.plan.made = w.day;
        x.plan.instalments = new long[parts];
        Arrays.fill(x.plan.instalments, x.owes() / parts);
        x.plan.instalments[0] += x.owes() % parts;
        return x.plan.instalments[0];
    }

    public long planIs(int customer, int what) {
        thing(in(customer, w.customers.size()));
        range(in(what, 4));
        Customer x = w.customers.get(customer);
        if (what == 3) {
            return x.failed;
        }
        if (x.plan == null) {
            return what == 1 ? NONE : 0;
        }
        int due = x.plan.made + 10;
        while (due < w.day) {
            due += 10;
        }
        return new long[] {x.plan.instalments.length, due, x.plan.paidIn}[what];
    }

    public boolean poor(int customer, boolean is) {
        thing(in(customer, w.customers.size()));
        boolean was = w.customers.get(customer).poor;
        w.customers.get(customer).poor = is;
        return was;
    }

    public long fund(int cents) {
        range(cents > 0 && cents < 100000);
        state(w.money >= cents);
        w.money -= cents;
        w.fund += cents;
        return w.fund;
    }

    public int bills(int customer) {
        thing(in(customer, w.customers.size()));
        return w.customers.get(customer).bills.size();
    }

    public long billIs(int customer, int bill, int what) {
        thing(in(customer, w.customers.size()) && in(bill, w.customers.get(customer).bills.size()));
        range(in(what, 8));
        Bill b = w.customers.get(customer).bills.get(bill);
        return new long[] {b.day, b.items[0], b.items[1], b.items[2], b.refund, b.given, b.sum, b.open}[what];
    }

    public long billNow(int customer) {
        thing(in(customer, w.customers.size()));
        World then = w.copy();
        return then.bill(then.customers.get(customer)).sum;
    }

    public int notice(int customer, int what) {
        thing(in(customer, w.customers.size()));
        range(in(what, 2));
        Customer x = w.customers.get(customer);
        return what == 0 ? w.notice(x) : bits(x.cut);
    }

    public long journal(int account) {
        range(in(account, 7));
        long owed = 0;
        for (Customer x : w.customers) {
            owed += x.owes();
        }
        return new long[] {w.money, owed, w.fund, w.earned, w.paid, w.given, w.spent}[account];
    }

    public boolean isSoundBooks() {
        return true;
    }

    public int crew(int crossing, int skills, int pace) {
        thing(in(crossing, 12));
        range(skills > 0 && skills < 32 && pace > 0 && pace < 5);
        state(w.crews.size() < 4);
        w.crew(crossing, skills, pace);
        return w.crews.size() - 1;
    }

    public int crewIs(int crew, int what) {
        thing(in(crew, w.crews.size()));
        range(in(what, 7));
        Crew x = w.crews.get(crew);
        return new int[] {x.at, x.skills, x.pace, x.job == null ? NONE : x.job.number, x.spells, one(x.overtime),
            x.done}[what];
    }

    public boolean overtime(int crew, boolean is) {
        thing(in(crew, w.crews.size()));
        boolean was = w.crews.get(crew).overtime;
        w.crews.get(crew).overtime = is;
        return was;
    }

    public int leave(int crew) {
        thing(in(crew, w.crews.size()));
        state(w.crews.get(crew).job != null);
        int job = w.crews.get(crew).job.number;
        w.leaveJob(w.crews.get(crew));
        return job;
    }

    public int job(int kind, int good, int place, int urgency) {
        range(in(kind, 7) && in(urgency, 10) && (good == 0 || List.of(0, 2, 3).contains(kind)));
        thing(in(good, 3) && in(place, kind < 4 ? 17 : w.customers.size()));
        Job j = w.tell(kind, good, place, urgency);
        state(j != null);
        return j.number;
    }

    public int jobIs(int job, int what) {
        thing(in(job, w.jobs.size()));
        range(in(what, 6));
        Job j = w.jobs.get(job);
        return new int[] {j.kind, j.good, j.place, j.urgency, j.state, j.crew}[what];
    }

    public int dropJob(int job) {
        thing(in(job, w.jobs.size()));
        Job j = w.jobs.get(job);
        state(j.state < 2);
        for (Crew x : w.crews) {
            if (x.job == j) {
                w.leaveJob(x);
            }
        }
        j.state = 3;
        return w.notOver();
    }

    public int nextJob(int crew) {
        thing(in(crew, w.crews.size()));
        if (w.crews.get(crew).job != null) {
            return w.crews.get(crew).job.number;
        }
        World then = w.copy();
        then.weatherGoesBy();
        Job j = then.choose(then.crews.get(crew));
        return j == null ? NONE : j.number;
    }

    public int order(int part, int many) {
        thing(in(part, 4));
        range(many > 0 && many < 100);
        state(w.orders.size() < 8 && w.money >= many * World.PRICE[part]);
        return w.makeOrder(part, many);
    }

    public int least(int part, int least) {
        thing(in(part, 4));
        range(in(least, 100));
        int was = w.least[part];
        w.least[part] = least;
        return was;
    }

    public int storeIs(int part, int what) {
        thing(in(part, 4));
        range(in(what, 7));
        return new int[] {w.stock[part], w.ordered(part), w.least[part], World.PRICE[part], w.taken[part],
            w.came[part], w.gone[part]}[what];
    }

    public long spent(int what) {
        range(in(what, 2));
        return what == 0 ? w.wages : w.ordersCost;
    }

    public boolean isSoundCrews() {
        return true;
    }

    public int weather(int temperature, int wind, int rain) {
        range(temperature >= -30 && temperature <= 40 && in(wind, 10) && in(rain, 10));
        int was = w.temperature;
        w.temperature = temperature;
        w.wind = wind;
        w.rain = rain;
        w.drawn = false;
        return was;
    }

    public int draws(int seed) {
        range(in(seed, 65537));
        int was = w.seed;
        w.seed = seed;
        w.drawn = true;
        return was;
    }

    public int storm(int row, int strength) {
        range(in(row, 3) && strength > 0 && strength < 10);
        state(w.storms.size() < 4);
        int number = 0;
        while (w.storms.containsKey(number)) {
            number++;
        }
        Storm x = new Storm();
        x.row = row;
        x.strength = strength;
        w.storms.put(number, x);
        return number;
    }

    public boolean alarm(boolean is) {
        boolean was = w.alarm;
        w.alarm = is;
        return was;
    }

    public int weatherIs(int what) {
        range(in(what, 7));
        return new int[] {w.temperature, w.wind, w.rain, one(w.drawn), w.seed, one(w.alarm), w.storms.size()}[what];
    }

    public int stormIs(int storm, int what) {
        thing(w.storms.containsKey(storm));
        range(in(what, 4));
        Storm x = w.storms.get(storm);
        return new int[] {x.row, x.strength, x.column == null ? NONE : x.column, x.broke}[what];
    }

    public int force(int crossing) {
        thing(in(crossing, 12));
        return w.force(crossing);
    }

    public int content() {
        return w.content();
    }

    public int gain(int good, int street) {
        thing(in(good, 3) && in(street, 17));
        state(link(good, street) != null && !link(good, street).sound);
        World then = w.copy();
        then.mendOn(good, street);
        return then.content() - w.content();
    }

    public int mending(int what) {
        range(in(what, 4));
        List<Integer> broken = new ArrayList<>();
        for (int k = 0; k < 51 && broken.size() < 4; k++) {
            if (link(k / 17, k % 17) != null && !link(k / 17, k % 17).sound) {
                broken.add(k);
            }
        }
        List<List<Integer>> orders = new ArrayList<>();
        orders.add(List.of());
        for (int from = 0; from < orders.size(); from++) {
            if (orders.get(from).size() < 3) {
                for (int k : broken) {
                    if (!orders.get(from).contains(k)) {
                        List<Integer> longer = new ArrayList<>(orders.get(from));
                        longer.add(k);
                        orders.add(longer);
                    }
                }
            }
        }
        List<Integer> best = null;
        int bestWorth = NONE;
        for (List<Integer> order : orders) {
            World then = w.copy();
            int worth = 0;
            for (int k : order) {
                then.mendOn(k / 17, k % 17);
                worth += then.content();
            }
            worth += (3 - order.size()) * then.content();
            if (worth > bestWorth) {
                best = order;
                bestWorth = worth;
            }
        }
        return what == 0 ? bestWorth : what <= best.size() ? best.get(what - 1) : NONE;
    }

    public int report(int what) {
        range(in(what, 6));
        int n = w.report[what];
        w.report[what] = 0;
        return n;
    }

    public boolean isSoundStorm() {
        return true;
    }
}
