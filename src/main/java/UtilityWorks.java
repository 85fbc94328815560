import java.util.Arrays;

/**
 * A town's works: power, water and heat in one grid of streets. ../shared/DOC.md says what each call
 * does; words in capitals are its terms.
 *
 * <p>Things that have numbers stand in tables, a row each, with the columns in the order in which the
 * thing's own ...Is call tells them; so a call often just tells a column. All rows are made once, in
 * constructors: no call makes an object, but keep, the first time for each image.
 */
public final class UtilityWorks {
    public static final int NONE = -1;

    private static final int POWER = 0;
    private static final int WATER = 1;
    private static final int HEAT = 2;
    private static final int GOODS = 3;
    private static final int CROSSINGS = 12;
    private static final int COLUMNS = 4;
    private static final int STREETS = 17;
    private static final int LINKS = GOODS * STREETS;
    private static final int CUSTOMERS = 10;
    private static final int LAST_DAY = 999;

    /** No CROSSING is higher, so a HEAD of this reaches each. */
    private static final int TOP = 99;

    /** Far above the turns, of which each uses up a source, a want or a link. */
    private static final int MANY = 1000000;

    /** The ends of the STREETS. */
    private static final int[] LOW = {0, 1, 2, 4, 5, 6, 8, 9, 10, 0, 1, 2, 3, 4, 5, 6, 7};

    private static final int[] HIGH = {1, 2, 3, 5, 6, 7, 9, 10, 11, 4, 5, 6, 7, 8, 9, 10, 11};

    /**
     * The STREETS at each CROSSING, four places for each, by the numbers of the CROSSINGS to which they
     * lead: taken in this order a search meets the first of several ways first.
     */
    private static final int[] EXITS = {
        -1, -1, 0, 9, -1, 0, 1, 10, -1, 1, 2, 11, -1, 2, -1, 12,
        9, -1, 3, 13, 10, 3, 4, 14, 11, 4, 5, 15, 12, 5, -1, 16,
        13, -1, 6, -1, 14, 6, 7, -1, 15, 7, 8, -1, 16, 8, -1, -1
    };

    private final Town town;

    /** An image is null until it is kept: most towns keep none, and a Town is large. */
    private final Town[] images;

    public UtilityWorks() {
        town = new Town();
        images = new Town[2];
    }

    // ---- the town

    public int linkIs(int good, int street, int what)
            throws IndexOutOfBoundsException, IllegalArgumentException {
        needThing(isGood(good) && isStreet(street));
        needRange(isWithin(what, 0, 4));
        return town.grid.linkTells(good, street, what);
    }

    public boolean turn(int good, int street, boolean on)
            throws IndexOutOfBoundsException, IllegalStateException {
        needThing(isGood(good) && isStreet(street));
        needState(town.grid.hasLink(good, street));
        int[] link = town.grid.linkOf(good, street);
        boolean rings = on && good == POWER && link[Grid.SOUND] == 1
                && town.grid.closesRing(street, town.ways);
        needState(!rings);
        boolean was = link[Grid.ON] == 1;
        link[Grid.ON] = bit(on);
        if (on) {
            link[Grid.TRIPPED] = 0;
        }
        return was;
    }

    public int bound(int good, int street, int bound)
            throws IndexOutOfBoundsException, IllegalArgumentException, IllegalStateException {
        needThing(isGood(good) && isStreet(street));
        needRange(isWithin(bound, 1, 999));
        needState(town.grid.hasLink(good, street));
        return swap(town.grid.linkOf(good, street), Grid.BOUND, bound);
    }

    public int lay(int good, int street, int bound)
            throws IndexOutOfBoundsException, IllegalArgumentException, IllegalStateException {
        needThing(isGood(good) && isStreet(street));
        needRange(isWithin(bound, 1, 999));
        needState(!town.grid.hasLink(good, street));
        needState(good == POWER || town.grid.isDug(street));
        town.grid.putLink(good, street, bound, false);
        town.books.spend(Grid.LAYING_COST);
        return town.grid.countLinks(good, false);
    }

    public boolean breaks(int good, int street) throws IndexOutOfBoundsException, IllegalStateException {
        needThing(isGood(good) && isStreet(street));
        needState(town.grid.hasLink(good, street));
        return swap(town.grid.linkOf(good, street), Grid.SOUND, 0) == 1;
    }

    public boolean joined(int good, int crossing, int other) throws IndexOutOfBoundsException {
        needThing(isGood(good) && isCrossing(crossing) && isCrossing(other));
        return town.grid.areJoined(good, crossing, other, town.ways);
    }

    public int pass(int days) throws IllegalArgumentException, IllegalStateException {
        needRange(isWithin(days, 1, 60));
        needState(town.day + days <= LAST_DAY);
        for (int k = 0; k < days; k++) {
            town.sky.goBy(town);
            town.crews.goBy(town);
            town.power.goBy(town);
            town.water.goBy(town);
            town.heat.goBy(town);
            town.customers.goBy(town);
            town.books.goBy(town);
            town.stores.goBy(town);
            town.grid.goBy(town);
            town.day++;
        }
        return town.day;
    }

    public int keep(int image) throws IndexOutOfBoundsException {
        needThing(isWithin(image, 0, 1));
        Town copy = images[image];
        if (copy == null) {
            copy = new Town();
            images[image] = copy;
        }
        copy.copyFrom(town);
        return town.day;
    }

    public int bring(int image) throws IndexOutOfBoundsException, IllegalStateException {
        needThing(isWithin(image, 0, 1));
        Town copy = images[image];
        needState(copy != null);
        town.copyFrom(copy);
        return town.day;
    }

    public int count(int what) throws IllegalArgumentException {
        needRange(isWithin(what, 0, 9));
        if (what == 0) {
            return town.day;
        }
        if (what <= 3) {
            return town.grid.countLinks(what - 1, false);
        }
        if (what <= 6) {
            return town.grid.countLinks(what - 4, true);
        }
        if (what == 7) {
            return town.grid.countStreets(Grid.DUG);
        }
        return what == 8 ? town.grid.countStreets(Grid.FLOODED) : town.grid.countPermits();
    }

    public boolean isSound() {
        return isSoundStreets() && isSoundPower() && isSoundWater() && isSoundHeat() && isSoundMeters()
                && isSoundBooks() && isSoundCrews() && isSoundStorm();
    }

    public int height(int crossing, int height) throws IndexOutOfBoundsException, IllegalArgumentException {
        needThing(isCrossing(crossing));
        needRange(isWithin(height, 0, TOP));
        return swap(town.grid.height, crossing, height);
    }

    // ---- streets

    public int surface(int street, int surface)
            throws IndexOutOfBoundsException, IllegalArgumentException, IllegalStateException {
        needThing(isStreet(street));
        needRange(isWithin(surface, 0, 2));
        needState(!town.grid.isDug(street));
        return swap(town.grid.streets[street], Grid.SURFACE, surface);
    }

    public int market(int street, int days) throws IndexOutOfBoundsException, IllegalArgumentException {
        needThing(isStreet(street));
        needRange(isWithin(days, 0, 127));
        return swap(town.grid.streets[street], Grid.MARKETS, days);
    }

    public int may(int street, int from, int days)
            throws IndexOutOfBoundsException, IllegalArgumentException {
        needThing(isStreet(street));
        needRange(isWithin(from, 0, 9999) && isWithin(days, 1, 9));
        return town.grid.reasonAgainst(town, street, from, days);
    }

    public int firstFree(int street, int days) throws IndexOutOfBoundsException, IllegalArgumentException {
        needThing(isStreet(street));
        needRange(isWithin(days, 1, 9));
        for (int from = town.day; from <= town.day + 60; from++) {
            if (town.grid.reasonAgainst(town, street, from, days) == 0) {
                return from;
            }
        }
        return NONE;
    }

    public int permit(int good, int street, int from, int days)
            throws IndexOutOfBoundsException, IllegalArgumentException, IllegalStateException {
        needThing(isGood(good) && isStreet(street));
        needRange(isWithin(from, 0, 9999) && isWithin(days, 1, 9));
        int number = town.grid.freePermit();
        needState(number != NONE && town.grid.reasonAgainst(town, street, from, days) == 0);
        int[] permit = town.grid.permits[number];
        permit[Grid.GOOD] = good;
        permit[Grid.STREET] = street;
        permit[Grid.FIRST] = from;
        permit[Grid.LAST] = from + days - 1;
        permit[Grid.FEE] = 500 * days * (town.grid.streets[street][Grid.SURFACE] + 1);
        permit[Grid.SHARED] = 0;
        town.books.spend(permit[Grid.FEE]);
        return number;
    }

    public int share(int permit, int good) throws IndexOutOfBoundsException, IllegalStateException {
        needThing(town.grid.isPermit(permit) && isGood(good));
        needState(!town.grid.isFor(permit, good));
        int[] row = town.grid.permits[permit];
        int pays = row[Grid.FEE] / 2;
        row[Grid.SHARED] |= 1 << good;
        town.books.spend(pays);
        return pays;
    }

    public int drop(int permit) throws IndexOutOfBoundsException {
        needThing(town.grid.isPermit(permit));
        int[] row = town.grid.permits[permit];
        row[Grid.GOOD] = NONE;
        return row[Grid.LAST] - Math.max(row[Grid.FIRST], town.day) + 1;
    }

    public int permitIs(int permit, int what) throws IndexOutOfBoundsException, IllegalArgumentException {
        needThing(town.grid.isPermit(permit));
        needRange(isWithin(what, 0, 6));
        return what == 6 ? bit(town.grid.holds(permit, town.day)) : town.grid.permits[permit][what];
    }

    public int hire(int street, boolean dig) throws IndexOutOfBoundsException, IllegalStateException {
        needThing(isStreet(street));
        boolean dug = town.grid.isDug(street);
        needState(dig ? !dug && town.grid.holderOn(street, town.day) != NONE : dug);
        int cost = dig ? Grid.DIGGING_COST : Grid.FILLING_COST;
        if (dig) {
            town.grid.streets[street][Grid.DUG] = 1;
        } else {
            town.grid.fill(street, town.day);
        }
        town.books.spend(cost);
        return cost;
    }

    public int streetIs(int street, int what) throws IndexOutOfBoundsException, IllegalArgumentException {
        needThing(isStreet(street));
        needRange(isWithin(what, 0, 8));
        if (what == 0) {
            return LOW[street];
        }
        if (what == 1) {
            return HIGH[street];
        }
        return what == 5 ? town.grid.holderOn(street, town.day) : town.grid.streets[street][what];
    }

    public int way(int from, int to) throws IndexOutOfBoundsException {
        needThing(isCrossing(from) && isCrossing(to));
        town.grid.openStreets(town.ways);
        town.ways.spread(from, town.grid.height, TOP);
        return town.ways.far[to];
    }

    public int wayIs(int from, int to, int k) throws IndexOutOfBoundsException, IllegalArgumentException {
        needThing(isCrossing(from) && isCrossing(to));
        needRange(isWithin(k, 0, 11));
        town.grid.openStreets(town.ways);
        town.ways.spread(from, town.grid.height, TOP);
        return k < town.ways.trace(to) ? town.ways.steps[k] : NONE;
    }

    public boolean isSoundStreets() {
        return town.grid.isWell(town);
    }

    // ---- power

    public int plant(int crossing, int capacity)
            throws IndexOutOfBoundsException, IllegalArgumentException, IllegalStateException {
        needThing(isCrossing(crossing));
        needRange(isWithin(capacity, 1, 300));
        Power power = town.power;
        needState(power.count < Power.PLANTS && whoStands(power.plants, power.count, crossing) == NONE);
        return power.build(crossing, capacity);
    }

    public boolean start(int plant, boolean up) throws IndexOutOfBoundsException {
        needThing(isWithin(plant, 0, town.power.count - 1));
        return swap(town.power.plants[plant], Power.UP, bit(up)) == 1;
    }

    public int plantIs(int plant, int what) throws IndexOutOfBoundsException, IllegalArgumentException {
        needThing(isWithin(plant, 0, town.power.count - 1));
        needRange(isWithin(what, 0, 3));
        town.power.reckon(town);
        return what == 3 ? town.power.gives[plant] : town.power.plants[plant][what];
    }

    public int powerAt(int crossing, int what) throws IndexOutOfBoundsException, IllegalArgumentException {
        needThing(isCrossing(crossing));
        needRange(isWithin(what, 0, 4));
        town.power.reckon(town);
        return town.power.tellsAt(crossing, what);
    }

    public int lineIs(int street, int what) throws IndexOutOfBoundsException, IllegalArgumentException {
        needThing(isStreet(street) && town.grid.hasLink(POWER, street));
        needRange(isWithin(what, 0, 3));
        if (what == 2) {
            return town.grid.linkOf(POWER, street)[Grid.TRIPPED];
        }
        if (what == 3) {
            return bit(town.grid.closesRing(street, town.ways));
        }
        town.power.reckon(town);
        return what == 0 ? town.power.flow[street] : bit(town.power.leads[street]);
    }

    public int flowAnew(int street) throws IndexOutOfBoundsException {
        needThing(isStreet(street) && town.grid.hasLink(POWER, street));
        town.power.reckon(town);
        return town.power.lowSideGives(town, street);
    }

    public int shed(int what) throws IllegalArgumentException {
        needRange(isWithin(what, 0, 2));
        town.power.reckon(town);
        return town.power.shedSets[what];
    }

    public int dark(int customer) throws IndexOutOfBoundsException {
        needThing(isCustomer(customer));
        return town.power.dark[customer];
    }

    public int switching(int what) throws IllegalArgumentException {
        needRange(isWithin(what, 0, 1));
        town.power.findSwitching(town);
        return what == 0 ? town.power.bestWorth : town.power.bestSet;
    }

    public long powerSum(int what) throws IllegalArgumentException {
        needRange(isWithin(what, 0, 5));
        return town.power.sums[what];
    }

    public boolean isSoundPower() {
        return town.power.isWell(town);
    }

    // ---- water

    public int well(int crossing, int yield, int lift)
            throws IndexOutOfBoundsException, IllegalArgumentException, IllegalStateException {
        needThing(isCrossing(crossing));
        needRange(isWithin(yield, 1, 99) && isWithin(lift, 0, 99));
        Water water = town.water;
        needState(water.wellCount < Water.WELLS
                && whoStands(water.wells, water.wellCount, crossing) == NONE);
        return water.digWell(crossing, yield, lift);
    }

    public int tank(int crossing, int size, int reserve)
            throws IndexOutOfBoundsException, IllegalArgumentException, IllegalStateException {
        needThing(isCrossing(crossing));
        needRange(isWithin(size, 1, 999) && isWithin(reserve, 0, size));
        Water water = town.water;
        needState(water.tankCount < Water.TANKS
                && whoStands(water.tanks, water.tankCount, crossing) == NONE);
        return water.buildTank(crossing, size, 0, reserve);
    }

    public boolean pump(int well, boolean on) throws IndexOutOfBoundsException {
        needThing(isWithin(well, 0, town.water.wellCount - 1));
        return swap(town.water.wells[well], Water.ON, bit(on)) == 1;
    }

    public int reserve(int tank, int reserve) throws IndexOutOfBoundsException, IllegalArgumentException {
        needThing(isWithin(tank, 0, town.water.tankCount - 1));
        needRange(isWithin(reserve, 0, town.water.tanks[tank][Water.SIZE]));
        return swap(town.water.tanks[tank], Water.RESERVE, reserve);
    }

    public int leak(int street, int leak) throws IndexOutOfBoundsException, IllegalArgumentException {
        needThing(isStreet(street) && town.grid.hasLink(WATER, street));
        needRange(isWithin(leak, 0, 9));
        return swap(town.grid.linkOf(WATER, street), Grid.LEAK, leak);
    }

    public int wellIs(int well, int what) throws IndexOutOfBoundsException, IllegalArgumentException {
        needThing(isWithin(well, 0, town.water.wellCount - 1));
        needRange(isWithin(what, 0, 6));
        town.reckonWater();
        return town.water.wellTells(town, well, what);
    }

    public int tankIs(int tank, int what) throws IndexOutOfBoundsException, IllegalArgumentException {
        needThing(isWithin(tank, 0, town.water.tankCount - 1));
        needRange(isWithin(what, 0, 5));
        town.reckonWater();
        return town.water.tankTells(tank, what);
    }

    public int pipeIs(int street, int what) throws IndexOutOfBoundsException, IllegalArgumentException {
        needThing(isStreet(street) && town.grid.hasLink(WATER, street));
        needRange(isWithin(what, 0, 5));
        town.reckonWater();
        return town.water.pipeTells(town, street, what);
    }

    public int waterAt(int crossing, int what) throws IndexOutOfBoundsException, IllegalArgumentException {
        needThing(isCrossing(crossing));
        needRange(isWithin(what, 0, 5));
        town.reckonWater();
        return town.water.tellsAt(crossing, what);
    }

    public int waterAnew(int crossing) throws IndexOutOfBoundsException {
        needThing(isCrossing(crossing));
        town.reckonWater();
        return town.water.getsAnew(crossing);
    }

    public int waterWithout(int street) throws IndexOutOfBoundsException {
        needThing(isStreet(street) && town.grid.hasLink(WATER, street));
        return town.lessWithout(WATER, street);
    }

    public int fire(int crossing, int amount) throws IndexOutOfBoundsException, IllegalArgumentException {
        needThing(isCrossing(crossing));
        needRange(isWithin(amount, 1, 500));
        return town.water.putOut(town, crossing, amount);
    }

    public long waterSum(int what) throws IllegalArgumentException {
        needRange(isWithin(what, 0, 6));
        return what == 6 ? town.water.levels() : town.water.sums[what];
    }

    public boolean isSoundWater() {
        town.reckonWater();
        return town.water.isWell(town);
    }

    // ---- heat

    public int boiler(int crossing, int capacity)
            throws IndexOutOfBoundsException, IllegalArgumentException, IllegalStateException {
        needThing(isCrossing(crossing));
        needRange(isWithin(capacity, 10, 300));
        Heat heat = town.heat;
        needState(heat.count < Heat.BOILERS && whoStands(heat.boilers, heat.count, crossing) == NONE);
        return heat.build(crossing, capacity);
    }

    public int coal(int boiler, int fuel)
            throws IndexOutOfBoundsException, IllegalArgumentException, IllegalStateException {
        needThing(isWithin(boiler, 0, town.heat.count - 1));
        needRange(isWithin(fuel, 1, 999));
        int[] row = town.heat.boilers[boiler];
        needState(row[Heat.FUEL] + fuel <= 999 && town.stores.has(Stores.FUEL, fuel));
        town.stores.take(Stores.FUEL, fuel);
        row[Heat.FUEL] += fuel;
        return row[Heat.FUEL];
    }

    public boolean light(int boiler, boolean lit) throws IndexOutOfBoundsException {
        needThing(isWithin(boiler, 0, town.heat.count - 1));
        return swap(town.heat.boilers[boiler], Heat.LIT, bit(lit)) == 1;
    }

    public int boilerIs(int boiler, int what) throws IndexOutOfBoundsException, IllegalArgumentException {
        needThing(isWithin(boiler, 0, town.heat.count - 1));
        needRange(isWithin(what, 0, 8));
        town.reckonHeat();
        return town.heat.boilerTells(boiler, what);
    }

    public int mainIs(int street, int what) throws IndexOutOfBoundsException, IllegalArgumentException {
        needThing(isStreet(street) && town.grid.hasLink(HEAT, street));
        needRange(isWithin(what, 0, 3));
        town.reckonHeat();
        return town.heat.mainTells(town, street, what);
    }

    public int heatAt(int crossing, int what) throws IndexOutOfBoundsException, IllegalArgumentException {
        needThing(isCrossing(crossing));
        needRange(isWithin(what, 0, 2));
        town.reckonHeat();
        return town.heat.tellsAt(town, crossing, what);
    }

    public int warmth(int customer) throws IndexOutOfBoundsException {
        needThing(isCustomer(customer));
        return town.heat.warmth[customer];
    }

    public int lasts(int boiler) throws IndexOutOfBoundsException {
        needThing(isWithin(boiler, 0, town.heat.count - 1));
        town.reckonHeat();
        if (town.heat.lacks[boiler] != 0) {
            return 0;
        }
        int burned = town.heat.burned(boiler);
        return burned == 0 ? 999 : town.heat.boilers[boiler][Heat.FUEL] / burned;
    }

    public int lostAnew() {
        town.reckonHeat();
        return town.heat.madeLessGot();
    }

    public int heatWithout(int street) throws IndexOutOfBoundsException {
        needThing(isStreet(street) && town.grid.hasLink(HEAT, street));
        return town.lessWithout(HEAT, street);
    }

    public long heatSum(int what) throws IllegalArgumentException {
        needRange(isWithin(what, 0, 4));
        return town.heat.sums[what];
    }

    public boolean isSoundHeat() {
        town.reckonHeat();
        return town.heat.isWell(town);
    }

    // ---- meters

    public int customer(int crossing, int rank)
            throws IndexOutOfBoundsException, IllegalArgumentException, IllegalStateException {
        needThing(isCrossing(crossing));
        needRange(isWithin(rank, 0, 9));
        needState(town.customers.count < CUSTOMERS);
        return town.customers.tell(crossing, rank, town.day);
    }

    public int need(int customer, int good, int need)
            throws IndexOutOfBoundsException, IllegalArgumentException {
        needThing(isCustomer(customer) && isGood(good));
        needRange(isWithin(need, 0, 20));
        return swap(town.customers.rows[customer], Customers.NEED + good, need);
    }

    public boolean connect(int customer, int good, boolean is) throws IndexOutOfBoundsException {
        needThing(isCustomer(customer) && isGood(good));
        return town.customers.hook(customer, good, is);
    }

    public int customerIs(int customer, int what)
            throws IndexOutOfBoundsException, IllegalArgumentException {
        needThing(isCustomer(customer));
        needRange(isWithin(what, 0, 11));
        return town.customers.rows[customer][what];
    }

    public int meterIs(int customer, int good, int what)
            throws IndexOutOfBoundsException, IllegalArgumentException {
        needThing(isCustomer(customer) && isGood(good));
        needRange(isWithin(what, 0, 8));
        return what == 7
                ? town.customers.rate(customer, good)
                : town.customers.meterOf(customer, good)[what];
    }

    public int unseal(int customer, int good) throws IndexOutOfBoundsException, IllegalStateException {
        needThing(isCustomer(customer) && isGood(good));
        int[] meter = town.customers.meterOf(customer, good);
        needState(meter[Customers.SEALED] == 1);
        meter[Customers.SEALED] = 0;
        return meter[Customers.WHEELS];
    }

    public int slow(int customer, int good, int slow)
            throws IndexOutOfBoundsException, IllegalArgumentException, IllegalStateException {
        needThing(isCustomer(customer) && isGood(good));
        needRange(isWithin(slow, 0, 90));
        int[] meter = town.customers.meterOf(customer, good);
        needState(meter[Customers.SEALED] == 0);
        return swap(meter, Customers.SLOW, slow);
    }

    public int seal(int customer, int good) throws IndexOutOfBoundsException, IllegalStateException {
        needThing(isCustomer(customer) && isGood(good));
        int[] meter = town.customers.meterOf(customer, good);
        needState(meter[Customers.SEALED] == 0);
        meter[Customers.SEALED] = 1;
        return swap(meter, Customers.SLOW, 0);
    }

    public int read(int customer, int good) throws IndexOutOfBoundsException {
        needThing(isCustomer(customer) && isGood(good));
        return town.customers.readRight(customer, good, town.day);
    }

    public int estimate(int customer, int good) throws IndexOutOfBoundsException {
        needThing(isCustomer(customer) && isGood(good));
        return town.customers.readEstimated(customer, good, town.day);
    }

    public int loss(int good) throws IndexOutOfBoundsException {
        needThing(isGood(good));
        return town.customers.lossOf(good);
    }

    public int suspect(int good) throws IndexOutOfBoundsException {
        needThing(isGood(good));
        return town.customers.suspectOf(good);
    }

    public boolean isSoundMeters() {
        return town.customers.isWell();
    }

    // ---- books

    public int tariff(int good, int what, int v) throws IndexOutOfBoundsException, IllegalArgumentException {
        needThing(isGood(good));
        needRange(isWithin(what, 0, 3) && isWithin(v, 0, what == Books.BASE ? 9999 : 999));
        return swap(town.books.tariffs[good], what, v);
    }

    public long pay(int customer, int cents) throws IndexOutOfBoundsException, IllegalArgumentException {
        needThing(isCustomer(customer));
        needRange(isWithin(cents, 1, 99999));
        town.books.payIn(customer, cents);
        return town.books.owedBy(customer);
    }

    public long owes(int customer) throws IndexOutOfBoundsException {
        needThing(isCustomer(customer));
        return town.books.owedBy(customer);
    }

    public long split(int customer, int parts)
            throws IndexOutOfBoundsException, IllegalArgumentException, IllegalStateException {
        needThing(isCustomer(customer));
        needRange(isWithin(parts, 2, 6));
        needState(!town.books.hasPlan(customer) && town.books.owedBy(customer) >= parts);
        town.books.makePlan(customer, parts, town.day);
        return town.books.dueBy(customer, 1);
    }

    public long planIs(int customer, int what) throws IndexOutOfBoundsException, IllegalArgumentException {
        needThing(isCustomer(customer));
        needRange(isWithin(what, 0, 3));
        return what == 1
                ? town.books.nextDue(customer, town.day)
                : town.books.plans[customer][what];
    }

    public boolean poor(int customer, boolean is) throws IndexOutOfBoundsException {
        needThing(isCustomer(customer));
        boolean was = town.books.poor[customer];
        town.books.poor[customer] = is;
        return was;
    }

    public long fund(int cents) throws IllegalArgumentException, IllegalStateException {
        needRange(isWithin(cents, 1, 99999));
        long[] journal = town.books.journal;
        needState(journal[Books.MONEY] >= cents);
        journal[Books.MONEY] -= cents;
        journal[Books.FUND] += cents;
        return journal[Books.FUND];
    }

    public int bills(int customer) throws IndexOutOfBoundsException {
        needThing(isCustomer(customer));
        return town.books.billCount[customer];
    }

    public long billIs(int customer, int bill, int what)
            throws IndexOutOfBoundsException, IllegalArgumentException {
        needThing(isCustomer(customer) && isWithin(bill, 0, town.books.billCount[customer] - 1));
        needRange(isWithin(what, 0, 7));
        return town.books.billOf(customer, bill)[what];
    }

    public long billNow(int customer) throws IndexOutOfBoundsException {
        needThing(isCustomer(customer));
        return town.books.sumNow(town, customer);
    }

    public int notice(int customer, int what) throws IndexOutOfBoundsException, IllegalArgumentException {
        needThing(isCustomer(customer));
        needRange(isWithin(what, 0, 1));
        return what == 0
                ? town.books.noticeOn(customer, town.day)
                : town.customers.rows[customer][Customers.CUT];
    }

    public long journal(int account) throws IllegalArgumentException {
        needRange(isWithin(account, 0, 6));
        return account == Books.OWED ? town.books.owedByAll() : town.books.journal[account];
    }

    public boolean isSoundBooks() {
        return town.books.isWell();
    }

    // ---- crews, jobs

    public int crew(int crossing, int skills, int pace)
            throws IndexOutOfBoundsException, IllegalArgumentException, IllegalStateException {
        needThing(isCrossing(crossing));
        needRange(isWithin(skills, 1, 31) && isWithin(pace, 1, 4));
        needState(town.crews.count < Crews.CREWS);
        return town.crews.hireCrew(crossing, skills, pace);
    }

    public int crewIs(int crew, int what) throws IndexOutOfBoundsException, IllegalArgumentException {
        needThing(isCrew(crew));
        needRange(isWithin(what, 0, 6));
        return town.crews.rows[crew][what];
    }

    public boolean overtime(int crew, boolean is) throws IndexOutOfBoundsException {
        needThing(isCrew(crew));
        return swap(town.crews.rows[crew], Crews.OVERTIME, bit(is)) == 1;
    }

    public int leave(int crew) throws IndexOutOfBoundsException, IllegalStateException {
        needThing(isCrew(crew));
        int job = town.crews.rows[crew][Crews.JOB];
        needState(job != NONE);
        town.crews.putBack(crew);
        return job;
    }

    public int job(int kind, int good, int place, int urgency)
            throws IllegalArgumentException, IndexOutOfBoundsException, IllegalStateException {
        needRange(isWithin(kind, 0, 6) && isWithin(urgency, 0, 9));
        needRange(good == 0 || kind == Crews.DIG || kind == Crews.MEND || kind == Crews.LAY);
        needThing(isGood(good) && (kind <= Crews.LAY ? isStreet(place) : isCustomer(place)));
        int number = town.crews.tellJob(kind, good, place, urgency);
        needState(number != NONE);
        return number;
    }

    public int jobIs(int job, int what) throws IndexOutOfBoundsException, IllegalArgumentException {
        needThing(isWithin(job, 0, town.crews.jobCount - 1));
        needRange(isWithin(what, 0, 5));
        return town.crews.jobs[job][what];
    }

    public int dropJob(int job) throws IndexOutOfBoundsException, IllegalStateException {
        needThing(isWithin(job, 0, town.crews.jobCount - 1));
        needState(!town.crews.isOver(job));
        int crew = town.crews.jobs[job][Crews.CREW];
        if (isCrew(crew)) {
            town.crews.putBack(crew);
        }
        town.crews.jobs[job][Crews.STATE] = Crews.DROPPED;
        return town.crews.notOver();
    }

    public int nextJob(int crew) throws IndexOutOfBoundsException {
        needThing(isCrew(crew));
        int[] row = town.crews.rows[crew];
        if (row[Crews.JOB] != NONE) {
            return row[Crews.JOB];
        }
        town.grid.openStreetsIn(town.sky.nextRain(), town.ways);
        town.ways.spread(row[Crews.AT], town.grid.height, TOP);
        return town.crews.bestJob(town, crew);
    }

    // ---- stores

    public int order(int part, int many)
            throws IndexOutOfBoundsException, IllegalArgumentException, IllegalStateException {
        needThing(isWithin(part, 0, Stores.PARTS - 1));
        needRange(isWithin(many, 1, 99));
        needState(town.stores.canOrder(town.books, part, many));
        return town.stores.makeOrder(town, part, many);
    }

    public int least(int part, int least) throws IndexOutOfBoundsException, IllegalArgumentException {
        needThing(isWithin(part, 0, Stores.PARTS - 1));
        needRange(isWithin(least, 0, 99));
        return swap(town.stores.rows[part], Stores.LEAST, least);
    }

    public int storeIs(int part, int what) throws IndexOutOfBoundsException, IllegalArgumentException {
        needThing(isWithin(part, 0, Stores.PARTS - 1));
        needRange(isWithin(what, 0, 6));
        if (what == 1) {
            return town.stores.ordered(part);
        }
        return what == 3 ? Stores.PRICES[part] : town.stores.rows[part][what];
    }

    public long spent(int what) throws IllegalArgumentException {
        needRange(isWithin(what, 0, 1));
        return what == 0 ? town.books.wages : town.books.orders;
    }

    public boolean isSoundCrews() {
        return town.crews.isWell() && town.stores.isWell();
    }

    // ---- weather, storms

    public int weather(int temperature, int wind, int rain) throws IllegalArgumentException {
        needRange(isWithin(temperature, -30, 40) && isWithin(wind, 0, 9) && isWithin(rain, 0, 9));
        int was = town.sky.temperature;
        town.sky.temperature = temperature;
        town.sky.wind = wind;
        town.sky.rain = rain;
        town.sky.drawn = false;
        return was;
    }

    public int draws(int seed) throws IllegalArgumentException {
        needRange(isWithin(seed, 0, 65536));
        int was = town.sky.seed;
        town.sky.seed = seed;
        town.sky.drawn = true;
        return was;
    }

    public int storm(int row, int strength) throws IllegalArgumentException, IllegalStateException {
        needRange(isWithin(row, 0, 2) && isWithin(strength, 1, 9));
        int number = town.sky.freeStorm();
        needState(number != NONE);
        town.sky.tellStorm(number, row, strength);
        return number;
    }

    public boolean alarm(boolean is) {
        boolean was = town.sky.alarm;
        town.sky.alarm = is;
        return was;
    }

    public int weatherIs(int what) throws IllegalArgumentException {
        needRange(isWithin(what, 0, 6));
        return town.sky.tells(what);
    }

    public int stormIs(int storm, int what) throws IndexOutOfBoundsException, IllegalArgumentException {
        needThing(isWithin(storm, 0, Sky.STORMS - 1) && town.sky.isStorm(storm));
        needRange(isWithin(what, 0, 3));
        return town.sky.storms[storm][what];
    }

    public int force(int crossing) throws IndexOutOfBoundsException {
        needThing(isCrossing(crossing));
        return town.sky.forceAt(crossing);
    }

    public int content() {
        return town.countContent();
    }

    public int gain(int good, int street) throws IndexOutOfBoundsException, IllegalStateException {
        needThing(isGood(good) && isStreet(street));
        needState(town.grid.isBroken(good, street));
        return town.gainOf(good, street);
    }

    public int mending(int what) throws IllegalArgumentException {
        needRange(isWithin(what, 0, 3));
        town.findMending();
        return what == 0 ? town.bestWorth : town.bestLinks[what - 1];
    }

    public int report(int what) throws IllegalArgumentException {
        needRange(isWithin(what, 0, 5));
        return swap(town.sky.report, what, 0);
    }

    public boolean isSoundStorm() {
        if (!town.sky.isWell()) {
            return false;
        }
        town.findMending();
        return town.bestWorth >= 3 * town.countContent();
    }

    // ---- what all parts use

    private static void needThing(boolean there) {
        if (!there) {
            throw new IndexOutOfBoundsException();
        }
    }

    private static void needRange(boolean inRange) {
        if (!inRange) {
            throw new IllegalArgumentException();
        }
    }

    private static void needState(boolean fits) {
        if (!fits) {
            throw new IllegalStateException();
        }
    }

    private static boolean isWithin(int v, int lowest, int highest) {
        return v >= lowest && v <= highest;
    }

    private static boolean isGood(int good) {
        return good >= 0 && good < GOODS;
    }

    private static boolean isStreet(int street) {
        return street >= 0 && street < STREETS;
    }

    private static boolean isCrossing(int crossing) {
        return crossing >= 0 && crossing < CROSSINGS;
    }

    private boolean isCustomer(int customer) {
        return customer >= 0 && customer < town.customers.count;
    }

    private boolean isCrew(int crew) {
        return crew >= 0 && crew < town.crews.count;
    }

    private static int bit(boolean is) {
        return is ? 1 : 0;
    }

    /** Sets an element of a row, and returns what it was. */
    private static int swap(int[] row, int place, int v) {
        int was = row[place];
        row[place] = v;
        return was;
    }

    /** Returns the first row of a table of things whose CROSSING, in column 0, is this one. */
    private static int whoStands(int[][] table, int count, int crossing) {
        for (int k = 0; k < count && k < table.length; k++) {
            if (table[k][0] == crossing) {
                return k;
            }
        }
        return NONE;
    }

    private static int tenthUp(int v) {
        return (v + 9) / 10;
    }

    private static void copyRow(int[] from, int[] into) {
        System.arraycopy(from, 0, into, 0, Math.min(from.length, into.length));
    }

    private static void copyLongs(long[] from, long[] into) {
        System.arraycopy(from, 0, into, 0, Math.min(from.length, into.length));
    }

    private static void copyTable(int[][] from, int[][] into) {
        for (int k = 0; k < from.length && k < into.length; k++) {
            copyRow(from[k], into[k]);
        }
    }

    private static void copyLongTable(long[][] from, long[][] into) {
        for (int k = 0; k < from.length && k < into.length; k++) {
            copyLongs(from[k], into[k]);
        }
    }

    private static void clearTable(int[][] table) {
        for (int k = 0; k < table.length; k++) {
            Arrays.fill(table[k], 0);
        }
    }

    /** All that an image keeps, and what more than one part has to do with. */
    private static final class Town {
        static final int MENDED = 3;
        static final int LOOKED_AT = 4;

        int day;
        final Ways ways = new Ways();
        final Grid grid = new Grid();
        final Power power = new Power();
        final Water water = new Water();
        final Heat heat = new Heat();
        final Customers customers = new Customers();
        final Books books = new Books();
        final Crews crews = new Crews();
        final Stores stores = new Stores();
        final Sky sky = new Sky();

        /** What the best MENDING is made of; nothing of it lasts beyond a call. */
        final int[] brokenLinks = new int[LOOKED_AT];
        final int[] bestLinks = new int[MENDED];
        int bestWorth;
        int bestMany;
        final int[] getsBefore = new int[CROSSINGS];

        void copyFrom(Town o) {
            day = o.day;
            grid.copyFrom(o.grid);
            power.copyFrom(o.power);
            water.copyFrom(o.water);
            heat.copyFrom(o.heat);
            customers.copyFrom(o.customers);
            books.copyFrom(o.books);
            crews.copyFrom(o.crews);
            stores.copyFrom(o.stores);
            sky.copyFrom(o.sky);
        }

        void reckonWater() {
            power.reckon(this);
            water.reckon(this);
        }

        void reckonHeat() {
            power.reckon(this);
            water.reckon(this);
            heat.reckon(this);
        }

        /** Which CROSSINGS would GET less of WATER or HEAT, if a LINK was OFF. */
        int lessWithout(int good, int street) {
            reckonHeat();
            int[] gets = good == WATER ? water.gets : heat.gets;
            copyRow(gets, getsBefore);
            int[] link = grid.linkOf(good, street);
            int was = swap(link, Grid.ON, 0);
            reckonHeat();
            link[Grid.ON] = was;
            int less = 0;
            for (int c = 0; c < CROSSINGS; c++) {
                if (gets[c] < getsBefore[c]) {
                    less |= 1 << c;
                }
            }
            return less;
        }

        int countContent() {
            power.reckon(this);
            water.reckon(this);
            heat.reckon(this);
            int cold = sky.cold();
            int many = 0;
            for (int k = 0; k < customers.count; k++) {
                boolean all = power.got[k] == customers.wants(k, POWER, cold)
                        && water.got[k] == customers.wants(k, WATER, cold)
                        && heat.got[k] == customers.wants(k, HEAT, cold);
                many += bit(all);
            }
            return many;
        }

        int gainOf(int good, int street) {
            int before = countContent();
            int link = STREETS * good + street;
            int wasOn = grid.mendAndTurn(link, ways);
            int then = countContent();
            grid.breakAgain(link, wasOn);
            return then - before;
        }

        /** Tries the orders so that of those as long as each other the first comes first. */
        void findMending() {
            int many = grid.firstBroken(brokenLinks);
            bestWorth = NONE;
            considerMending(3 * countContent(), 0, NONE, NONE, NONE);
            for (int a = 0; a < many; a++) {
                int first = brokenLinks[a];
                int firstOn = grid.mendAndTurn(first, ways);
                int one = countContent();
                considerMending(3 * one, 1, first, NONE, NONE);
                for (int b = 0; b < many; b++) {
                    if (b == a) {
                        continue;
                    }
                    int second = brokenLinks[b];
                    int secondOn = grid.mendAndTurn(second, ways);
                    int two = countContent();
                    considerMending(one + 2 * two, 2, first, second, NONE);
                    for (int c = 0; c < many; c++) {
                        if (c == a || c == b) {
                            continue;
                        }
                        int third = brokenLinks[c];
                        int thirdOn = grid.mendAndTurn(third, ways);
                        considerMending(one + two + countContent(), 3, first, second, third);
                        grid.breakAgain(third, thirdOn);
                    }
                    grid.breakAgain(second, secondOn);
                }
                grid.breakAgain(first, firstOn);
            }
        }

        private void considerMending(int worth, int many, int first, int second, int third) {
            if (worth > bestWorth || worth == bestWorth && many < bestMany) {
                bestWorth = worth;
                bestMany = many;
                bestLinks[0] = first;
                bestLinks[1] = second;
                bestLinks[2] = third;
            }
        }
    }

    /** A search from a CROSSING on, along the STREETS that are open, as rows that are used again. */
    private static final class Ways {
        final boolean[] open = new boolean[STREETS];
        final int[] far = new int[CROSSINGS];
        final int[] via = new int[CROSSINGS];
        final int[] met = new int[CROSSINGS];
        int reached;
        final int[] steps = new int[CROSSINGS];

        /**
         * Tells how far each CROSSING is, NONE if it can't be reached. Each one is met first along the
         * first of its shortest ways, as those met before it were, and EXITS is in order.
         */
        void spread(int start, int[] height, int head) {
            for (int c = 0; c < CROSSINGS; c++) {
                far[c] = NONE;
            }
            far[start] = 0;
            met[0] = start;
            reached = 1;
            for (int k = 0; k < reached && k < CROSSINGS; k++) {
                int at = met[k];
                for (int d = 4 * at; d < 4 * at + 4; d++) {
                    int street = EXITS[d];
                    if (street != NONE && open[street]) {
                        int next = LOW[street] + HIGH[street] - at;
                        if (far[next] == NONE && height[next] <= head && reached < CROSSINGS) {
                            far[next] = far[at] + 1;
                            via[next] = street;
                            met[reached] = next;
                            reached++;
                        }
                    }
                }
            }
        }

        /** Sets the steps to the STREETS of the way to a CROSSING; returns how many, NONE without one. */
        int trace(int to) {
            int at = to;
            for (int k = far[to] - 1; k >= 0; k--) {
                steps[k] = via[at];
                at = LOW[steps[k]] + HIGH[steps[k]] - at;
            }
            return far[to];
        }
    }

    /** The STREETS, the LINKS in them, and the PERMITS to dig them up. */
    private static final class Grid {
        static final int BOUND = 1;
        static final int SOUND = 2;
        static final int ON = 3;
        static final int TRIPPED = 4;
        static final int LEAK = 5;
        static final int STRAIN = 6;

        static final int SURFACE = 2;
        static final int DUG = 3;
        static final int FLOODED = 4;
        static final int FILLED = 6;
        static final int MARKETS = 7;
        static final int FINES = 8;

        static final int GOOD = 0;
        static final int STREET = 1;
        static final int FIRST = 2;
        static final int LAST = 3;
        static final int FEE = 4;
        static final int SHARED = 5;

        static final int PERMITS = 16;
        static final int ASPHALT = 2;
        static final int LAYING_COST = 3000;
        static final int DIGGING_COST = 5000;
        static final int FILLING_COST = 2000;
        static final int FINE = 1000;

        static final int[] OLD_LINES = {0, 1, 2, 9, 10, 11, 12, 13, 14, 15, 16};
        static final int[] OLD_PIPES = {0, 1, 2, 9, 10, 13, 14};
        static final int[] OLD_MAINS = {0, 1, 9, 10};

        final int[][] links = new int[LINKS][7];
        final int[][] streets = new int[STREETS][9];
        final int[][] permits = new int[PERMITS][6];
        final int[] height = new int[CROSSINGS];

        Grid() {
            for (int c = 0; c < CROSSINGS; c++) {
                height[c] = 10 * (2 - c / COLUMNS) + 5 * (c % COLUMNS);
            }
            for (int s = 0; s < STREETS; s++) {
                streets[s][SURFACE] = s <= 2 ? 1 : 0;
                streets[s][FILLED] = NONE;
            }
            for (int p = 0; p < PERMITS; p++) {
                permits[p][GOOD] = NONE;
            }
            for (int s : OLD_LINES) {
                putLink(POWER, s, 60, true);
            }
            for (int s : OLD_PIPES) {
                putLink(WATER, s, 40, true);
            }
            for (int s : OLD_MAINS) {
                putLink(HEAT, s, 30, true);
            }
        }

        void copyFrom(Grid o) {
            copyTable(o.links, links);
            copyTable(o.streets, streets);
            copyTable(o.permits, permits);
            copyRow(o.height, height);
        }

        int[] linkOf(int good, int street) {
            return links[STREETS * good + street];
        }

        void putLink(int good, int street, int bound, boolean on) {
            int[] link = links[STREETS * good + street];
            link[0] = 1;
            link[BOUND] = bound;
            link[SOUND] = 1;
            link[ON] = bit(on);
        }

        boolean hasLink(int good, int street) {
            return links[STREETS * good + street][0] == 1;
        }

        boolean leads(int good, int street) {
            int[] link = links[STREETS * good + street];
            return link[SOUND] == 1 && link[ON] == 1;
        }

        boolean isBroken(int good, int street) {
            int[] link = links[STREETS * good + street];
            return link[0] == 1 && link[SOUND] == 0;
        }

        int linkTells(int good, int street, int what) {
            return what == 4 ? bit(leads(good, street)) : links[STREETS * good + street][what];
        }

        int countLinks(int good, boolean brokenOnly) {
            int many = 0;
            for (int s = 0; s < STREETS; s++) {
                many += bit(brokenOnly ? isBroken(good, s) : hasLink(good, s));
            }
            return many;
        }

        int countStreets(int column) {
            int many = 0;
            for (int s = 0; s < STREETS; s++) {
                many += streets[s][column];
            }
            return many;
        }

        int countPermits() {
            int many = 0;
            for (int p = 0; p < PERMITS; p++) {
                many += bit(permits[p][GOOD] != NONE);
            }
            return many;
        }

        void openLinks(int good, Ways ways) {
            for (int s = 0; s < STREETS; s++) {
                ways.open[s] = leads(good, s);
            }
        }

        boolean areJoined(int good, int crossing, int other, Ways ways) {
            openLinks(good, ways);
            ways.spread(crossing, height, TOP);
            return ways.far[other] != NONE;
        }

        /** Whether a LINE that does not LEAD would close a ring, if it did. */
        boolean closesRing(int street, Ways ways) {
            return !leads(POWER, street) && areJoined(POWER, LOW[street], HIGH[street], ways);
        }

        void makeSound(int good, int street, Ways ways) {
            int[] link = links[STREETS * good + street];
            if (good == POWER && link[SOUND] == 0) {
                openLinks(POWER, ways);
                ways.spread(LOW[street], height, TOP);
                link[ON] = ways.far[HIGH[street]] == NONE ? link[ON] : 0;
            }
            link[SOUND] = 1;
        }

        /** Makes a BROKEN LINK SOUND, and ON if it may be; returns whether it was ON, for breakAgain. */
        int mendAndTurn(int place, Ways ways) {
            int good = place / STREETS;
            int street = place % STREETS;
            boolean rings = good == POWER && areJoined(POWER, LOW[street], HIGH[street], ways);
            links[place][SOUND] = 1;
            return swap(links[place], ON, bit(!rings));
        }

        void breakAgain(int place, int wasOn) {
            links[place][SOUND] = 0;
            links[place][ON] = wasOn;
        }

        /** Fills a row with the places of the first LINKS that are BROKEN; returns how many. */
        int firstBroken(int[] places) {
            int many = 0;
            for (int place = 0; place < LINKS && many < places.length; place++) {
                if (links[place][0] == 1 && links[place][SOUND] == 0) {
                    places[many] = place;
                    many++;
                }
            }
            return many;
        }

        boolean isDug(int street) {
            return streets[street][DUG] == 1;
        }

        void fill(int street, int day) {
            streets[street][DUG] = 0;
            streets[street][FILLED] = day;
        }

        void openStreets(Ways ways) {
            for (int s = 0; s < STREETS; s++) {
                ways.open[s] = streets[s][DUG] == 0 && streets[s][FLOODED] == 0;
            }
        }

        void openStreetsIn(int rain, Ways ways) {
            for (int s = 0; s < STREETS; s++) {
                ways.open[s] = streets[s][DUG] == 0 && !isUnder(s, rain);
            }
        }

        /** Whether a STREET is FLOODED by so much RAIN. */
        boolean isUnder(int street, int rain) {
            return height[LOW[street]] < 2 * rain && height[HIGH[street]] < 2 * rain;
        }

        boolean isPermit(int permit) {
            return permit >= 0 && permit < PERMITS && permits[permit][GOOD] != NONE;
        }

        int freePermit() {
            for (int p = 0; p < PERMITS; p++) {
                if (permits[p][GOOD] == NONE) {
                    return p;
                }
            }
            return NONE;
        }

        boolean isFor(int permit, int good) {
            return permits[permit][GOOD] == good || (permits[permit][SHARED] >> good & 1) == 1;
        }

        boolean holds(int permit, int day) {
            int[] row = permits[permit];
            return row[GOOD] != NONE && row[FIRST] <= day && day <= row[LAST];
        }

        /** Returns the PERMIT of a STREET that HOLDS on a DAY, or NONE. */
        int holderOn(int street, int day) {
            for (int p = 0; p < PERMITS; p++) {
                if (permits[p][STREET] == street && holds(p, day)) {
                    return p;
                }
            }
            return NONE;
        }

        boolean mayDigFor(int good, int street, int day) {
            int permit = holderOn(street, day);
            return permit != NONE && isFor(permit, good);
        }

        private boolean isTaken(int street, int from, int last) {
            for (int p = 0; p < PERMITS; p++) {
                int[] row = permits[p];
                if (row[GOOD] != NONE && row[STREET] == street && row[FIRST] <= last && from <= row[LAST]) {
                    return true;
                }
            }
            return false;
        }

        private boolean meetsMarket(int street, int from, int last) {
            for (int day = from; day <= last; day++) {
                if ((streets[street][MARKETS] >> day % 7 & 1) == 1) {
                    return true;
                }
            }
            return false;
        }

        /** The lowest REASON for which no PERMIT MAY be given, 0 without one. */
        int reasonAgainst(Town t, int street, int from, int days) {
            int last = from + days - 1;
            int[] row = streets[street];
            if (from < t.day) {
                return 1;
            }
            if (isTaken(street, from, last)) {
                return 2;
            }
            if (meetsMarket(street, from, last)) {
                return 3;
            }
            if (row[SURFACE] == ASPHALT && row[FILLED] != NONE && from - row[FILLED] < 20) {
                return 4;
            }
            return t.sky.temperature < 0 && row[SURFACE] != 0 ? 5 : 0;
        }

        void goBy(Town t) {
            for (int s = 0; s < STREETS; s++) {
                if (isDug(s) && holderOn(s, t.day) == NONE) {
                    t.books.spend(FINE);
                    streets[s][FINES]++;
                }
            }
            for (int p = 0; p < PERMITS; p++) {
                if (permits[p][LAST] <= t.day) {
                    permits[p][GOOD] = NONE;
                }
            }
        }

        boolean isWell(Town t) {
            for (int p = 0; p < PERMITS; p++) {
                if (permits[p][GOOD] != NONE && (permits[p][LAST] < t.day || meetsAnother(p))) {
                    return false;
                }
            }
            openStreets(t.ways);
            for (int a = 0; a < CROSSINGS; a++) {
                for (int b = 0; b < a; b++) {
                    t.ways.spread(a, height, TOP);
                    int forth = t.ways.far[b];
                    t.ways.spread(b, height, TOP);
                    if (t.ways.far[a] != forth) {
                        return false;
                    }
                }
            }
            return true;
        }

        private boolean meetsAnother(int permit) {
            for (int p = 0; p < permit; p++) {
                int[] a = permits[p];
                int[] b = permits[permit];
                if (a[GOOD] != NONE && a[STREET] == b[STREET] && a[FIRST] <= b[LAST] && b[FIRST] <= a[LAST]) {
                    return true;
                }
            }
            return false;
        }
    }

    /** The PLANTS, and how POWER is dealt out and flows. */
    private static final class Power {
        static final int PLANTS = 4;
        static final int CAPACITY = 1;
        static final int UP = 2;
        static final int SPARES = 5;
        static final int SHED_WELLS = 0;
        static final int SHED_BOILERS = 1;
        static final int SHED_CUSTOMERS = 2;

        int count;
        final int[][] plants = new int[PLANTS][3];
        final int[] dark = new int[CUSTOMERS];
        final long[] sums = new long[6];

        /** From here on: what was reckoned last. */
        final boolean[] leads = new boolean[STREETS];
        final int[] island = new int[CROSSINGS];
        final int[] left = new int[CROSSINGS];
        final int[] needs = new int[CROSSINGS];
        final int[] gets = new int[CROSSINGS];
        final int[] net = new int[CROSSINGS];
        final int[] flow = new int[STREETS];
        final int[] gives = new int[PLANTS];
        final int[] got = new int[CUSTOMERS];
        final int[] shedSets = new int[3];
        final int[] spares = new int[SPARES];
        int bestWorth;
        int bestSet;

        Power() {
            build(0, 40);
            build(11, 30);
        }

        void copyFrom(Power o) {
            count = o.count;
            copyTable(o.plants, plants);
            copyRow(o.dark, dark);
            copyLongs(o.sums, sums);
        }

        int build(int crossing, int capacity) {
            int[] plant = plants[count];
            plant[0] = crossing;
            plant[CAPACITY] = capacity;
            plant[UP] = 1;
            count++;
            return count - 1;
        }

        /** Deals POWER out behind all TRIPS. */
        void reckon(Town t) {
            for (int s = 0; s < STREETS; s++) {
                leads[s] = t.grid.leads(POWER, s);
            }
            for (int trips = 0; trips <= STREETS; trips++) {
                label(t);
                feedAll(t);
                plantsGive();
                findFlows(t);
                int worst = mostOverBound(t.grid);
                if (worst == NONE) {
                    return;
                }
                leads[worst] = false;
            }
        }

        private void label(Town t) {
            Ways ways = t.ways;
            for (int s = 0; s < STREETS; s++) {
                ways.open[s] = leads[s];
            }
            Arrays.fill(island, NONE);
            for (int c = 0; c < CROSSINGS; c++) {
                if (island[c] == NONE) {
                    ways.spread(c, t.grid.height, TOP);
                    for (int k = 0; k < ways.reached; k++) {
                        island[ways.met[k]] = c;
                    }
                }
            }
        }

        private void feedAll(Town t) {
            Arrays.fill(left, 0);
            Arrays.fill(needs, 0);
            Arrays.fill(gets, 0);
            Arrays.fill(got, 0);
            Arrays.fill(shedSets, 0);
            for (int p = 0; p < count; p++) {
                left[island[plants[p][0]]] += plants[p][UP] == 1 ? plants[p][CAPACITY] : 0;
            }
            for (int w = 0; w < t.water.wellCount; w++) {
                int[] well = t.water.wells[w];
                if (well[Water.ON] == 1 && !feed(well[0], tenthUp(well[Water.YIELD]))) {
                    shedSets[SHED_WELLS] |= 1 << w;
                }
            }
            for (int b = 0; b < t.heat.count; b++) {
                int[] boiler = t.heat.boilers[b];
                if (boiler[Heat.LIT] == 1 && !feed(boiler[0], Heat.POWER_NEED)) {
                    shedSets[SHED_BOILERS] |= 1 << b;
                }
            }
            for (int k = 0; k < t.customers.count; k++) {
                int customer = t.customers.byRank[k];
                int need = t.customers.wants(customer, POWER, 0);
                if (need > 0 && feed(t.customers.rows[customer][0], need)) {
                    got[customer] = need;
                } else if (need > 0) {
                    shedSets[SHED_CUSTOMERS] |= 1 << customer;
                }
            }
        }

        /** Gives a USER all that it NEEDS, if there is so much; returns whether there was. */
        private boolean feed(int crossing, int need) {
            needs[crossing] += need;
            int at = island[crossing];
            if (left[at] < need) {
                return false;
            }
            left[at] -= need;
            gets[crossing] += need;
            return true;
        }

        private void plantsGive() {
            Arrays.fill(net, 0);
            for (int c = 0; c < CROSSINGS; c++) {
                net[island[c]] += gets[c];
            }
            for (int p = 0; p < count; p++) {
                int at = island[plants[p][0]];
                gives[p] = plants[p][UP] == 1 ? Math.min(plants[p][CAPACITY], net[at]) : 0;
                net[at] -= gives[p];
            }
        }

        /** Goes from the ends of each ISLAND inwards: what a branch has too much goes along its LINE. */
        private void findFlows(Town t) {
            Ways ways = t.ways;
            Arrays.fill(flow, 0);
            for (int c = 0; c < CROSSINGS; c++) {
                net[c] = -gets[c];
            }
            for (int p = 0; p < count; p++) {
                net[plants[p][0]] += gives[p];
            }
            for (int root = 0; root < CROSSINGS; root++) {
                if (island[root] == root) {
                    ways.spread(root, t.grid.height, TOP);
                    for (int k = ways.reached - 1; k > 0; k--) {
                        int at = ways.met[k];
                        int street = ways.via[at];
                        flow[street] = at == LOW[street] ? net[at] : -net[at];
                        net[LOW[street] + HIGH[street] - at] += net[at];
                    }
                }
            }
        }

        private int mostOverBound(Grid grid) {
            int worst = NONE;
            int most = 0;
            for (int s = 0; s < STREETS; s++) {
                int over = Math.abs(flow[s]) - grid.linkOf(POWER, s)[Grid.BOUND];
                if (leads[s] && over > most) {
                    worst = s;
                    most = over;
                }
            }
            return worst;
        }

        boolean isShed(int kind, int number) {
            return (shedSets[kind] >> number & 1) == 1;
        }

        int tellsAt(int crossing, int what) {
            if (what == 0) {
                return needs[crossing];
            }
            if (what == 1) {
                return gets[crossing];
            }
            if (what == 2) {
                return island[crossing];
            }
            return what == 3 ? capacityOf(island[crossing]) : needsOf(island[crossing]);
        }

        private int capacityOf(int lowest) {
            int sum = 0;
            for (int p = 0; p < count; p++) {
                boolean counts = plants[p][UP] == 1 && island[plants[p][0]] == lowest;
                sum += counts ? plants[p][CAPACITY] : 0;
            }
            return sum;
        }

        private int needsOf(int lowest) {
            int sum = 0;
            for (int c = 0; c < CROSSINGS; c++) {
                sum += island[c] == lowest ? needs[c] : 0;
            }
            return sum;
        }

        /** The FLOW found anew, behind reckon: the islands are others then. */
        int lowSideGives(Town t, int street) {
            boolean led = leads[street];
            leads[street] = false;
            label(t);
            leads[street] = led;
            int side = island[LOW[street]];
            int sum = 0;
            for (int c = 0; c < CROSSINGS; c++) {
                sum -= island[c] == side ? gets[c] : 0;
            }
            for (int p = 0; p < count; p++) {
                sum += island[plants[p][0]] == side ? gives[p] : 0;
            }
            return sum;
        }

        /** Tries the sets from the least on, so that of like ones the least stays. */
        void findSwitching(Town t) {
            int many = 0;
            for (int s = 0; s < STREETS && many < SPARES; s++) {
                int[] line = t.grid.linkOf(POWER, s);
                if (line[Grid.SOUND] == 1 && line[Grid.ON] == 0) {
                    spares[many] = s;
                    many++;
                }
            }
            bestWorth = NONE;
            bestSet = 0;
            for (int choice = 0; choice < 1 << many; choice++) {
                trySwitching(t, choice, many);
            }
        }

        private void trySwitching(Town t, int choice, int many) {
            boolean fits = true;
            int set = 0;
            for (int k = 0; k < many; k++) {
                if (fits && (choice >> k & 1) == 1) {
                    fits = !t.grid.closesRing(spares[k], t.ways);
                    t.grid.linkOf(POWER, spares[k])[Grid.ON] = bit(fits);
                    set |= 1 << spares[k];
                }
            }
            if (fits) {
                reckon(t);
                int worth = 0;
                for (int k = 0; k < t.customers.count; k++) {
                    worth += got[k];
                }
                boolean fewer = Integer.bitCount(set) < Integer.bitCount(bestSet);
                if (worth > bestWorth || worth == bestWorth && fewer) {
                    bestWorth = worth;
                    bestSet = set;
                }
            }
            for (int k = 0; k < many; k++) {
                t.grid.linkOf(POWER, spares[k])[Grid.ON] = 0;
            }
        }

        void goBy(Town t) {
            reckon(t);
            for (int s = 0; s < STREETS; s++) {
                if (t.grid.leads(POWER, s) && !leads[s]) {
                    int[] line = t.grid.linkOf(POWER, s);
                    line[Grid.ON] = 0;
                    line[Grid.TRIPPED] = 1;
                    sums[4]++;
                }
            }
            for (int p = 0; p < count; p++) {
                sums[0] += gives[p];
            }
            for (int w = 0; w < t.water.wellCount; w++) {
                sums[1] += t.water.isRunning(t, w) ? tenthUp(t.water.wells[w][Water.YIELD]) : 0;
            }
            for (int b = 0; b < t.heat.count; b++) {
                boolean fed = t.heat.boilers[b][Heat.LIT] == 1 && !isShed(SHED_BOILERS, b);
                sums[2] += fed ? Heat.POWER_NEED : 0;
            }
            for (int k = 0; k < t.customers.count; k++) {
                int is = bit(isShed(SHED_CUSTOMERS, k));
                sums[3] += got[k];
                dark[k] += is;
                sums[5] += is;
                t.sky.report[Sky.DARK_DAYS] += is;
            }
        }

        boolean isWell(Town t) {
            if (sums[0] != sums[1] + sums[2] + sums[3] || closesSomeRing(t)) {
                return false;
            }
            reckon(t);
            for (int s = 0; s < STREETS; s++) {
                if (t.grid.hasLink(POWER, s)) {
                    boolean over = Math.abs(flow[s]) > t.grid.linkOf(POWER, s)[Grid.BOUND];
                    if (over || lowSideGives(t, s) != flow[s]) {
                        return false;
                    }
                }
            }
            return true;
        }

        private boolean closesSomeRing(Town t) {
            t.grid.openLinks(POWER, t.ways);
            for (int s = 0; s < STREETS; s++) {
                if (t.ways.open[s]) {
                    t.ways.open[s] = false;
                    t.ways.spread(LOW[s], t.grid.height, TOP);
                    t.ways.open[s] = true;
                    if (t.ways.far[HIGH[s]] != NONE) {
                        return true;
                    }
                }
            }
            return false;
        }
    }

    /** The WELLS and TANKS, and how WATER is dealt out along PIPES. */
    private static final class Water {
        static final int WELLS = 3;
        static final int TANKS = 4;
        static final int SOURCES = WELLS + TANKS;
        static final int YIELD = 1;
        static final int LIFT = 2;
        static final int ON = 3;
        static final int SIZE = 1;
        static final int LEVEL = 2;
        static final int RESERVE = 3;

        static final int HOLE_WANTS = 20;
        static final int FIRST_LEVELS = 150;
        static final int BURSTING = 100;

        /** Where WATER goes; these are the places of its sums, too, behind what WELLS gave. */
        static final int TO_CUSTOMERS = 1;
        static final int TO_BOILERS = 2;
        static final int TO_LEAKS = 3;
        static final int TO_HOLES = 4;
        static final int TO_FIRES = 5;

        int wellCount;
        final int[][] wells = new int[WELLS][4];
        int tankCount;
        final int[][] tanks = new int[TANKS][4];
        final int[] shortDays = new int[CROSSINGS];
        final long[] sums = new long[6];

        /** From here on: what was reckoned last. The SOURCES are the WELLS, then the TANKS. */
        final int[] place = new int[SOURCES];
        final int[] head = new int[SOURCES];
        final int[] can = new int[SOURCES];
        final int[] gave = new int[SOURCES];
        final int[] wants = new int[CROSSINGS];
        final int[] gets = new int[CROSSINGS];
        final int[] filled = new int[CROSSINGS];
        final int[] yet = new int[CROSSINGS];
        final int[] room = new int[STREETS];
        final int[][] along = new int[2][STREETS];
        final int[][] went = new int[5][CROSSINGS];
        final int[] got = new int[CUSTOMERS];

        Water() {
            digWell(8, 50, 50);
            digWell(5, 20, 30);
            buildTank(3, 200, FIRST_LEVELS, 30);
        }

        void copyFrom(Water o) {
            wellCount = o.wellCount;
            copyTable(o.wells, wells);
            tankCount = o.tankCount;
            copyTable(o.tanks, tanks);
            copyRow(o.shortDays, shortDays);
            copyLongs(o.sums, sums);
        }

        int digWell(int crossing, int yields, int lift) {
            int[] well = wells[wellCount];
            well[0] = crossing;
            well[YIELD] = yields;
            well[LIFT] = lift;
            well[ON] = 1;
            wellCount++;
            return wellCount - 1;
        }

        int buildTank(int crossing, int size, int level, int reserve) {
            int[] tank = tanks[tankCount];
            tank[0] = crossing;
            tank[SIZE] = size;
            tank[LEVEL] = level;
            tank[RESERVE] = reserve;
            tankCount++;
            return tankCount - 1;
        }

        boolean isRunning(Town t, int well) {
            return wells[well][ON] == 1 && !t.power.isShed(Power.SHED_WELLS, well);
        }

        boolean isHole(Grid grid, int street) {
            return grid.isBroken(WATER, street) && grid.linkOf(WATER, street)[Grid.ON] == 1;
        }

        private int holeAt(Grid grid, int street) {
            return grid.height[HIGH[street]] < grid.height[LOW[street]] ? HIGH[street] : LOW[street];
        }

        /** Deals WATER out; POWER has been dealt out ahead of it. */
        void reckon(Town t) {
            findWants(t);
            begin(t.grid);
            for (int w = 0; w < wellCount; w++) {
                can[w] = isRunning(t, w) ? wells[w][YIELD] : 0;
            }
            for (int k = 0; k < tankCount; k++) {
                can[WELLS + k] = Math.max(0, tanks[k][LEVEL] - tanks[k][RESERVE]);
            }
            copyRow(wants, yet);
            Arrays.fill(gets, 0);
            carryAll(t, 0, SOURCES, gets);
            Arrays.fill(yet, 0);
            for (int k = 0; k < tankCount; k++) {
                yet[tanks[k][0]] = tanks[k][SIZE] - tanks[k][LEVEL] + gave[WELLS + k];
            }
            Arrays.fill(filled, 0);
            carryAll(t, 0, WELLS, filled);
            handOut(t);
        }

        private void findWants(Town t) {
            Arrays.fill(wants, 0);
            for (int s = 0; s < STREETS; s++) {
                if (isHole(t.grid, s)) {
                    wants[holeAt(t.grid, s)] += HOLE_WANTS;
                }
                if (t.grid.leads(WATER, s)) {
                    wants[LOW[s]] += t.grid.linkOf(WATER, s)[Grid.LEAK];
                }
            }
            for (int b = 0; b < t.heat.count; b++) {
                wants[t.heat.boilers[b][0]] += t.heat.waterNeed(b);
            }
            for (int k = 0; k < t.customers.count; k++) {
                wants[t.customers.rows[k][0]] += t.customers.wants(k, WATER, 0);
            }
        }

        private void begin(Grid grid) {
            for (int s = 0; s < STREETS; s++) {
                room[s] = grid.linkOf(WATER, s)[Grid.BOUND];
            }
            clearTable(along);
            Arrays.fill(can, 0);
            Arrays.fill(gave, 0);
            for (int w = 0; w < wellCount; w++) {
                place[w] = wells[w][0];
                head[w] = grid.height[place[w]] + wells[w][LIFT];
            }
            for (int k = 0; k < tankCount; k++) {
                place[WELLS + k] = tanks[k][0];
                head[WELLS + k] = grid.height[tanks[k][0]] + tanks[k][LEVEL] / 10;
            }
        }

        private void carryAll(Town t, int firstSource, int behind, int[] into) {
            for (int turns = 0; turns < MANY; turns++) {
                int pair = findPair(t, firstSource, behind);
                if (pair == NONE) {
                    return;
                }
                carry(t, pair / CROSSINGS, pair % CROSSINGS, into);
            }
        }

        private void openPipes(Town t) {
            for (int s = 0; s < STREETS; s++) {
                int[] pipe = t.grid.links[STREETS * WATER + s];
                t.ways.open[s] = room[s] > 0 && pipe[Grid.SOUND] == 1 && pipe[Grid.ON] == 1;
            }
        }

        /** Returns the SOURCE, times CROSSINGS, and the CROSSING of the next turn, or NONE. */
        private int findPair(Town t, int firstSource, int behind) {
            int pair = NONE;
            int fewest = CROSSINGS;
            openPipes(t);
            for (int k = firstSource; k < behind; k++) {
                if (can[k] > gave[k]) {
                    t.ways.spread(place[k], t.grid.height, head[k]);
                    for (int c = 0; c < CROSSINGS; c++) {
                        int far = t.ways.far[c];
                        if (yet[c] > 0 && far != NONE && far < fewest) {
                            fewest = far;
                            pair = CROSSINGS * k + c;
                        }
                    }
                }
            }
            return pair;
        }

        private void carry(Town t, int source, int to, int[] into) {
            openPipes(t);
            t.ways.spread(place[source], t.grid.height, head[source]);
            int pipes = t.ways.trace(to);
            int amount = Math.min(can[source] - gave[source], yet[to]);
            for (int k = 0; k < pipes; k++) {
                amount = Math.min(amount, room[t.ways.steps[k]]);
            }
            int at = place[source];
            for (int k = 0; k < pipes; k++) {
                int street = t.ways.steps[k];
                along[at == LOW[street] ? 0 : 1][street] += amount;
                room[street] -= amount;
                at = LOW[street] + HIGH[street] - at;
            }
            gave[source] += amount;
            yet[to] -= amount;
            into[to] += amount;
        }

        /** Hands out at each CROSSING what it GETS; yet is what there is of it still. */
        private void handOut(Town t) {
            copyRow(gets, yet);
            clearTable(went);
            for (int s = 0; s < STREETS; s++) {
                if (isHole(t.grid, s)) {
                    hand(holeAt(t.grid, s), TO_HOLES, HOLE_WANTS);
                }
            }
            for (int s = 0; s < STREETS; s++) {
                if (t.grid.leads(WATER, s)) {
                    hand(LOW[s], TO_LEAKS, t.grid.linkOf(WATER, s)[Grid.LEAK]);
                }
            }
            for (int b = 0; b < t.heat.count; b++) {
                hand(t.heat.boilers[b][0], TO_BOILERS, t.heat.waterNeed(b));
            }
            for (int k = 0; k < t.customers.count; k++) {
                int customer = t.customers.byRank[k];
                int need = t.customers.wants(customer, WATER, 0);
                got[customer] = hand(t.customers.rows[customer][0], TO_CUSTOMERS, need);
            }
        }

        private int hand(int crossing, int whither, int wanted) {
            int amount = Math.min(wanted, yet[crossing]);
            yet[crossing] -= amount;
            went[whither][crossing] += amount;
            return amount;
        }

        int wellTells(Town t, int well, int what) {
            if (what == 4) {
                return bit(isRunning(t, well));
            }
            if (what == 5) {
                return gave[well];
            }
            return what == 6 ? head[well] : wells[well][what];
        }

        private int levelThen(int tank) {
            return tanks[tank][LEVEL] - gave[WELLS + tank] + filled[tanks[tank][0]];
        }

        int tankTells(int tank, int what) {
            if (what == 4) {
                return head[WELLS + tank];
            }
            return what == 5 ? levelThen(tank) : tanks[tank][what];
        }

        int pipeTells(Town t, int street, int what) {
            switch (what) {
                case 0:
                    return t.grid.linkOf(WATER, street)[Grid.LEAK];
                case 1:
                    return t.grid.linkOf(WATER, street)[Grid.STRAIN];
                case 2:
                    return along[0][street];
                case 3:
                    return along[1][street];
                case 4:
                    return room[street];
                default:
                    return bit(isHole(t.grid, street));
            }
        }

        int tellsAt(int crossing, int what) {
            switch (what) {
                case 0:
                    return wants[crossing];
                case 1:
                    return gets[crossing];
                case 2:
                    return went[TO_HOLES][crossing] + went[TO_LEAKS][crossing];
                case 3:
                    return went[TO_BOILERS][crossing];
                case 4:
                    return went[TO_CUSTOMERS][crossing];
                default:
                    return shortDays[crossing];
            }
        }

        int getsAnew(int crossing) {
            int sum = -filled[crossing];
            for (int s = 0; s < STREETS; s++) {
                if (LOW[s] == crossing) {
                    sum += along[1][s] - along[0][s];
                } else if (HIGH[s] == crossing) {
                    sum += along[0][s] - along[1][s];
                }
            }
            for (int k = 0; k < SOURCES; k++) {
                sum += place[k] == crossing ? gave[k] : 0;
            }
            return sum;
        }

        /** A fire is dealt as a DAY is, but what was reckoned of that is gone then. */
        int putOut(Town t, int crossing, int amount) {
            begin(t.grid);
            for (int k = 0; k < tankCount; k++) {
                can[WELLS + k] = tanks[k][LEVEL];
            }
            Arrays.fill(yet, 0);
            yet[crossing] = amount;
            carryAll(t, WELLS, SOURCES, gets);
            for (int k = 0; k < tankCount; k++) {
                tanks[k][LEVEL] -= gave[WELLS + k];
            }
            int comes = amount - yet[crossing];
            sums[TO_FIRES] += comes;
            return comes;
        }

        long levels() {
            long sum = 0;
            for (int k = 0; k < tankCount; k++) {
                sum += tanks[k][LEVEL];
            }
            return sum;
        }

        void goBy(Town t) {
            reckon(t);
            for (int w = 0; w < wellCount; w++) {
                sums[0] += gave[w];
            }
            for (int c = 0; c < CROSSINGS; c++) {
                for (int whither = TO_CUSTOMERS; whither <= TO_HOLES; whither++) {
                    sums[whither] += went[whither][c];
                }
                boolean isShort = isShortNow(t.customers, c);
                shortDays[c] = isShort ? shortDays[c] + 1 : 0;
                t.sky.report[Sky.SHORT_DAYS] += bit(isShort);
            }
            for (int k = 0; k < tankCount; k++) {
                tanks[k][LEVEL] = levelThen(k);
            }
            for (int s = 0; s < STREETS; s++) {
                strain(t, s);
            }
        }

        private boolean isShortNow(Customers customers, int crossing) {
            for (int k = 0; k < customers.count; k++) {
                if (customers.rows[k][0] == crossing && got[k] < customers.wants(k, WATER, 0)) {
                    return true;
                }
            }
            return false;
        }

        private void strain(Town t, int street) {
            int[] pipe = t.grid.linkOf(WATER, street);
            if (pipe[0] == 0 || pipe[Grid.SOUND] == 0) {
                return;
            }
            int frost = -t.sky.temperature;
            if (frost > 0) {
                boolean moves = along[0][street] + along[1][street] > 0;
                pipe[Grid.STRAIN] += moves ? frost / 2 : frost;
            } else {
                pipe[Grid.STRAIN] = Math.max(0, pipe[Grid.STRAIN] - 5);
            }
            if (pipe[Grid.STRAIN] >= BURSTING) {
                pipe[Grid.STRAIN] = 0;
                pipe[Grid.SOUND] = 0;
                t.sky.report[Sky.PIPES_BROKEN]++;
            }
        }

        /** Behind reckon. */
        boolean isWell(Town t) {
            long out = levels();
            for (int whither = TO_CUSTOMERS; whither <= TO_FIRES; whither++) {
                out += sums[whither];
            }
            if (sums[0] + FIRST_LEVELS != out) {
                return false;
            }
            for (int s = 0; s < STREETS; s++) {
                if (along[0][s] + along[1][s] > t.grid.linkOf(WATER, s)[Grid.BOUND]) {
                    return false;
                }
            }
            for (int c = 0; c < CROSSINGS; c++) {
                if (gets[c] > wants[c] || getsAnew(c) != gets[c]) {
                    return false;
                }
            }
            return true;
        }
    }

    /** The BOILERS, how HEAT is dealt out along MAINS, and the WARMTH of CUSTOMERS. */
    private static final class Heat {
        static final int BOILERS = 2;
        static final int CAPACITY = 1;
        static final int FUEL = 2;
        static final int LIT = 3;
        static final int BURNED = 4;
        static final int POWER_NEED = 5;
        static final int FULL_WARMTH = 18;
        static final int CHILL = 8;

        int count;
        final int[][] boilers = new int[BOILERS][5];
        final int[] warmth = new int[CUSTOMERS];
        final long[] sums = new long[5];

        /** From here on: what was reckoned last. */
        int frost;
        final int[] lacks = new int[BOILERS];
        final int[] can = new int[BOILERS];
        final int[] made = new int[BOILERS];
        final int[] wants = new int[CROSSINGS];
        final int[] gets = new int[CROSSINGS];
        final int[] left = new int[CROSSINGS];
        final int[][] took = new int[2][STREETS];
        final int[] lost = new int[STREETS];
        final int[] room = new int[STREETS];
        final int[] got = new int[CUSTOMERS];

        Heat() {
            build(1, 60);
            boilers[0][FUEL] = 50;
            boilers[0][LIT] = 1;
            boilers[0][BURNED] = 1;
            Arrays.fill(warmth, FULL_WARMTH);
        }

        void copyFrom(Heat o) {
            count = o.count;
            copyTable(o.boilers, boilers);
            copyRow(o.warmth, warmth);
            copyLongs(o.sums, sums);
        }

        int build(int crossing, int capacity) {
            boilers[count][0] = crossing;
            boilers[count][CAPACITY] = capacity;
            count++;
            return count - 1;
        }

        /** What a BOILER NEEDS of WATER now. */
        int waterNeed(int boiler) {
            return boilers[boiler][LIT] == 1 ? tenthUp(boilers[boiler][CAPACITY]) : 0;
        }

        int burned(int boiler) {
            return tenthUp(made[boiler]);
        }

        /** Deals HEAT out; POWER and WATER have been dealt out ahead of it. */
        void reckon(Town t) {
            int cold = t.sky.cold();
            frost = t.sky.temperature < 0 ? -t.sky.temperature / 10 : 0;
            for (int b = 0; b < count; b++) {
                lacks[b] = lackOf(t, b);
                can[b] = lacks[b] == 0 ? capacityNow(b) : 0;
                made[b] = 0;
            }
            Arrays.fill(wants, 0);
            Arrays.fill(gets, 0);
            for (int k = 0; k < t.customers.count; k++) {
                wants[t.customers.rows[k][0]] += t.customers.wants(k, HEAT, cold);
            }
            clearTable(took);
            for (int s = 0; s < STREETS; s++) {
                room[s] = t.grid.linkOf(HEAT, s)[Grid.BOUND];
                lost[s] = 0;
            }
            for (int turns = 0; turns < MANY; turns++) {
                int pair = findPair(t);
                if (pair == NONE) {
                    break;
                }
                send(t, pair / CROSSINGS, pair % CROSSINGS);
            }
            handOut(t, cold);
        }

        private int lackOf(Town t, int boiler) {
            int[] row = boilers[boiler];
            if (row[LIT] == 0) {
                return 1;
            }
            if (t.power.isShed(Power.SHED_BOILERS, boiler)) {
                return 2;
            }
            if (t.water.went[Water.TO_BOILERS][row[0]] < waterNeed(boiler)) {
                return 3;
            }
            return row[FUEL] == 0 ? 4 : 0;
        }

        private int capacityNow(int boiler) {
            int[] row = boilers[boiler];
            int most = row[BURNED] == 1 ? row[CAPACITY] : row[CAPACITY] / 2;
            return Math.min(most, 10 * row[FUEL]);
        }

        /** Returns the BOILER, times CROSSINGS, and the CROSSING of the next turn, or NONE. */
        private int findPair(Town t) {
            int pair = NONE;
            int fewest = CROSSINGS;
            t.grid.openLinks(HEAT, t.ways);
            for (int b = 0; b < count; b++) {
                int yet = can[b] - made[b];
                if (yet > 0) {
                    t.ways.spread(boilers[b][0], t.grid.height, TOP);
                    for (int c = 0; c < CROSSINGS; c++) {
                        int far = t.ways.far[c];
                        if (wants[c] > gets[c] && far != NONE && far < fewest) {
                            int mains = t.ways.trace(c);
                            if (comesOut(mains, mostSent(t.ways, mains, yet)) > 0) {
                                fewest = far;
                                pair = CROSSINGS * b + c;
                            }
                        }
                    }
                }
            }
            return pair;
        }

        /**
         * A MAIN gives out nine tenths, rounded down, of what it takes in, less the frost, or nothing. So
         * the most that it may take in, if at most y may come out, is the greatest x with 9 * x / 10 at
         * most y + frost, and the least, if y is to come out, the least x with that at least y + frost.
         */
        private int mostSent(Ways ways, int mains, int yet) {
            int most = MANY;
            for (int k = mains - 1; k >= 0; k--) {
                most = (10 * (most + frost + 1) - 1) / 9;
                most = Math.min(most, room[ways.steps[k]]);
            }
            return Math.min(most, yet);
        }

        private int leastSent(int mains, int wanted) {
            int least = wanted;
            for (int k = 0; k < mains; k++) {
                least = (10 * (least + frost) + 8) / 9;
            }
            return least;
        }

        private int comesOut(int mains, int sent) {
            int amount = sent;
            for (int k = 0; k < mains; k++) {
                amount = Math.max(0, 9 * amount / 10 - frost);
            }
            return amount;
        }

        private void send(Town t, int boiler, int to) {
            t.grid.openLinks(HEAT, t.ways);
            t.ways.spread(boilers[boiler][0], t.grid.height, TOP);
            int mains = t.ways.trace(to);
            int most = mostSent(t.ways, mains, can[boiler] - made[boiler]);
            int amount = Math.min(most, leastSent(mains, wants[to] - gets[to]));
            made[boiler] += amount;
            int at = boilers[boiler][0];
            for (int k = 0; k < mains; k++) {
                int street = t.ways.steps[k];
                int rest = comesOut(1, amount);
                took[at == LOW[street] ? 0 : 1][street] += amount;
                room[street] -= amount;
                lost[street] += amount - rest;
                amount = rest;
                at = LOW[street] + HIGH[street] - at;
            }
            gets[to] += amount;
        }

        private void handOut(Town t, int cold) {
            copyRow(gets, left);
            for (int k = 0; k < t.customers.count; k++) {
                int customer = t.customers.byRank[k];
                int at = t.customers.rows[customer][0];
                got[customer] = Math.min(left[at], t.customers.wants(customer, HEAT, cold));
                left[at] -= got[customer];
            }
        }

        int boilerTells(int boiler, int what) {
            switch (what) {
                case 5:
                    return lacks[boiler];
                case 6:
                    return can[boiler];
                case 7:
                    return made[boiler];
                case 8:
                    return burned(boiler);
                default:
                    return boilers[boiler][what];
            }
        }

        int mainTells(Town t, int street, int what) {
            if (what < 2) {
                return took[what][street];
            }
            return what == 2 ? lost[street] : room[street];
        }

        int tellsAt(Town t, int crossing, int what) {
            if (what == 0) {
                return wants[crossing];
            }
            if (what == 1) {
                return gets[crossing];
            }
            int cold = t.sky.cold();
            int many = 0;
            for (int k = 0; k < t.customers.count; k++) {
                boolean here = t.customers.rows[k][0] == crossing;
                many += bit(here && got[k] < t.customers.wants(k, HEAT, cold));
            }
            return many;
        }

        int madeLessGot() {
            int sum = 0;
            for (int b = 0; b < count; b++) {
                sum += made[b];
            }
            for (int c = 0; c < CROSSINGS; c++) {
                sum -= gets[c];
            }
            return sum;
        }

        void goBy(Town t) {
            reckon(t);
            for (int b = 0; b < count; b++) {
                int[] row = boilers[b];
                boolean burns = lacks[b] == 0;
                row[BURNED] = bit(burns);
                row[LIT] = bit(burns);
                row[FUEL] -= burned(b);
                sums[0] += made[b];
                sums[3] += burned(b);
            }
            for (int c = 0; c < CROSSINGS; c++) {
                sums[1] += gets[c];
            }
            for (int s = 0; s < STREETS; s++) {
                sums[2] += lost[s];
            }
            for (int k = 0; k < t.customers.count; k++) {
                if (t.customers.isConnected(k, HEAT)) {
                    warm(t, k);
                }
            }
        }

        private void warm(Town t, int customer) {
            int above = warmth[customer] - t.sky.temperature;
            if (got[customer] == t.customers.wants(customer, HEAT, t.sky.cold())) {
                warmth[customer] = Math.min(FULL_WARMTH, warmth[customer] + 2);
            } else if (above > 0) {
                warmth[customer] -= (above + 3) / 4;
            }
            if (warmth[customer] < CHILL) {
                sums[4]++;
                t.sky.report[Sky.CHILLED_DAYS]++;
            }
        }

        /** Behind reckon. */
        boolean isWell(Town t) {
            if (sums[0] != sums[1] + sums[2]) {
                return false;
            }
            int lostInAll = 0;
            for (int s = 0; s < STREETS; s++) {
                lostInAll += lost[s];
                if (took[0][s] + took[1][s] > t.grid.linkOf(HEAT, s)[Grid.BOUND]) {
                    return false;
                }
            }
            for (int b = 0; b < count; b++) {
                if (made[b] > can[b]) {
                    return false;
                }
            }
            for (int c = 0; c < CROSSINGS; c++) {
                if (gets[c] > wants[c]) {
                    return false;
                }
            }
            return madeLessGot() == lostInAll;
        }
    }

    /** The CUSTOMERS and their METERS. */
    private static final class Customers {
        static final int RANK = 1;
        static final int CONNECTED = 2;
        static final int NEED = 3;
        static final int GOT = 6;
        static final int DRY = 9;
        static final int CUT = 12;
        static final int TOLD = 13;

        static final int WHEELS = 0;
        static final int SLOW = 1;
        static final int SEALED = 2;
        static final int COUNTED = 3;
        static final int READ_DAY = 4;
        static final int READ_RIGHT = 5;
        static final int SHOWN = 6;
        /** meterIs tells the RATE in this place, which is reckoned anew each time. */
        static final int HUNDREDTHS = 7;
        static final int TURNED = 8;
        static final int RIGHT_SUM = 9;
        static final int RIGHT_WHEELS = 10;
        static final int RIGHT_DAY = 11;
        static final int RIGHT_SPAN = 12;
        static final int RIGHT_SINCE_BILL = 13;
        static final int SENT = 14;
        static final int WANTED = 15;

        static final int ROUND = 10000;

        /** Of the CUSTOMERS at first: CROSSING, RANK, and the NEEDS. */
        static final int[] OLD = {
            5, 0, 12, 8, 10, 1, 3, 6, 4, 3, 3, 5, 5, 3, 0, 4, 2, 8, 5, 4, 9, 5, 4, 3, 0, 6, 4, 7, 0, 0
        };

        int count;
        final int[][] rows = new int[CUSTOMERS][14];
        final int[] byRank = new int[CUSTOMERS];
        final int[][] meters = new int[GOODS * CUSTOMERS][16];

        Customers() {
            for (int k = 0; k + 4 < OLD.length; k += 5) {
                int customer = tell(OLD[k], OLD[k + 1], 0);
                for (int good = 0; good < GOODS; good++) {
                    rows[customer][NEED + good] = OLD[k + 2 + good];
                    rows[customer][CONNECTED] |= OLD[k + 2 + good] > 0 ? 1 << good : 0;
                }
            }
        }

        void copyFrom(Customers o) {
            count = o.count;
            copyTable(o.rows, rows);
            copyRow(o.byRank, byRank);
            copyTable(o.meters, meters);
        }

        int tell(int crossing, int rank, int day) {
            int customer = count;
            Arrays.fill(rows[customer], 0);
            rows[customer][0] = crossing;
            rows[customer][RANK] = rank;
            rows[customer][TOLD] = day;
            for (int good = 0; good < GOODS; good++) {
                int[] meter = meters[GOODS * customer + good];
                Arrays.fill(meter, 0);
                meter[SEALED] = 1;
                meter[READ_DAY] = NONE;
                meter[RIGHT_DAY] = NONE;
            }
            int place = customer;
            for (int k = customer; k > 0 && rows[byRank[k - 1]][RANK] > rank; k--) {
                byRank[k] = byRank[k - 1];
                place = k - 1;
            }
            byRank[place] = customer;
            count++;
            return customer;
        }

        int[] meterOf(int customer, int good) {
            return meters[GOODS * customer + good];
        }

        boolean isConnected(int customer, int good) {
            return (rows[customer][CONNECTED] >> good & 1) == 1;
        }

        boolean hook(int customer, int good, boolean is) {
            boolean was = isConnected(customer, good);
            int[] row = rows[customer];
            if (is) {
                row[CONNECTED] |= 1 << good;
                row[CUT] &= ~(1 << good);
            } else {
                row[CONNECTED] &= ~(1 << good);
            }
            return was;
        }

        void cutOff(int customer) {
            rows[customer][CUT] = rows[customer][CONNECTED];
            rows[customer][CONNECTED] = 0;
        }

        void hookAgain(int customer) {
            rows[customer][CONNECTED] |= rows[customer][CUT];
            rows[customer][CUT] = 0;
        }

        /** What a CUSTOMER WANTS of a GOOD; the COLD counts for HEAT alone. */
        int wants(int customer, int good, int cold) {
            if ((rows[customer][CONNECTED] >> good & 1) == 0) {
                return 0;
            }
            int need = rows[customer][NEED + good];
            return good == HEAT ? need * cold / 10 : need;
        }

        int rate(int customer, int good) {
            int[] meter = meters[GOODS * customer + good];
            boolean tells = meter[RIGHT_DAY] != NONE && meter[RIGHT_SPAN] > 0;
            return tells ? meter[SHOWN] / meter[RIGHT_SPAN] : rows[customer][NEED + good];
        }

        int readRight(int customer, int good, int day) {
            int[] meter = meters[GOODS * customer + good];
            int ahead = meter[RIGHT_DAY] == NONE ? rows[customer][TOLD] : meter[RIGHT_DAY];
            meter[SHOWN] = Math.floorMod(meter[WHEELS] - meter[RIGHT_WHEELS], ROUND);
            meter[RIGHT_SUM] += meter[SHOWN];
            meter[COUNTED] = meter[RIGHT_SUM];
            meter[RIGHT_WHEELS] = meter[WHEELS];
            meter[RIGHT_SPAN] = day - ahead;
            meter[RIGHT_DAY] = day;
            meter[RIGHT_SINCE_BILL] = 1;
            meter[READ_DAY] = day;
            meter[READ_RIGHT] = 1;
            return meter[SHOWN];
        }

        /** By how much an ESTIMATED READING would make COUNTED more. */
        int estimateOn(int customer, int good, int day) {
            int[] meter = meters[GOODS * customer + good];
            int ahead = meter[READ_DAY] == NONE ? rows[customer][TOLD] : meter[READ_DAY];
            return rate(customer, good) * (day - ahead);
        }

        int readEstimated(int customer, int good, int day) {
            int[] meter = meters[GOODS * customer + good];
            int more = estimateOn(customer, good, day);
            meter[COUNTED] += more;
            meter[READ_DAY] = day;
            meter[READ_RIGHT] = 0;
            return more;
        }

        int lossOf(int good) {
            int sum = 0;
            for (int k = 0; k < count; k++) {
                int[] meter = meters[GOODS * k + good];
                sum += meter[SENT] - meter[TURNED];
            }
            return sum;
        }

        int suspectOf(int good) {
            int suspected = NONE;
            int most = 0;
            for (int k = 0; k < count; k++) {
                int[] meter = meters[GOODS * k + good];
                int gap = meter[WANTED] - meter[TURNED];
                if (gap > most) {
                    suspected = k;
                    most = gap;
                }
            }
            return suspected;
        }

        void goBy(Town t) {
            int cold = t.sky.cold();
            for (int k = 0; k < count; k++) {
                countOn(k, POWER, wants(k, POWER, cold), t.power.got[k]);
                countOn(k, WATER, wants(k, WATER, cold), t.water.got[k]);
                countOn(k, HEAT, wants(k, HEAT, cold), t.heat.got[k]);
            }
        }

        private void countOn(int customer, int good, int wanted, int got) {
            int[] meter = meters[GOODS * customer + good];
            rows[customer][GOT + good] = got;
            rows[customer][DRY + good] += bit(wanted > 0 && got == 0);
            meter[WANTED] += wanted;
            meter[SENT] += got;
            meter[HUNDREDTHS] += got * (100 - meter[SLOW]);
            int turns = meter[HUNDREDTHS] / 100;
            meter[HUNDREDTHS] %= 100;
            meter[WHEELS] = (meter[WHEELS] + turns) % ROUND;
            meter[TURNED] += turns;
        }

        boolean isWell() {
            for (int k = 0; k < GOODS * count; k++) {
                int[] meter = meters[k];
                if (meter[WHEELS] != meter[TURNED] % ROUND || meter[HUNDREDTHS] >= 100) {
                    return false;
                }
            }
            return lossOf(POWER) >= 0 && lossOf(WATER) >= 0 && lossOf(HEAT) >= 0;
        }
    }

    /** The TARIFFS, BILLS and PLANS, and the JOURNAL. */
    private static final class Books {
        static final int BASE = 0;
        static final int PRICE = 1;
        static final int STEP = 2;
        static final int DEAR = 3;

        static final int MONEY = 0;
        static final int OWED = 1;
        static final int FUND = 2;
        static final int EARNED = 3;
        static final int PAID = 4;
        static final int GIVEN = 5;
        static final int SPENT = 6;

        static final int BILL_DAY = 0;
        static final int ITEMS = 1;
        static final int REFUND = 4;
        static final int GIFT = 5;
        static final int SUM = 6;
        static final int OPEN = 7;

        static final int PARTS = 0;
        static final int MADE_ON = 1;
        static final int PAID_IN = 2;
        static final int FAILED = 3;
        static final int TOTAL = 4;

        static final int FIRST_MONEY = 100000;
        static final int MONTH = 30;
        static final int REFUND_A_DAY = 50;

        /** Each BILL DAY up to the last DAY is one of these. */
        static final int MOST_BILLS = LAST_DAY / MONTH + 1;

        final int[][] tariffs = new int[GOODS][4];
        final long[] journal = new long[7];
        long wages;
        long orders;
        final long[][] bills = new long[CUSTOMERS * MOST_BILLS][8];
        final int[] billCount = new int[CUSTOMERS];
        final int[] countedThen = new int[GOODS * CUSTOMERS];
        final int[] dryThen = new int[GOODS * CUSTOMERS];
        final long[] credit = new long[CUSTOMERS];
        final boolean[] poor = new boolean[CUSTOMERS];
        final long[][] plans = new long[CUSTOMERS][5];

        Books() {
            journal[MONEY] = FIRST_MONEY;
            setTariff(POWER, 300, 20, 100, 30);
            setTariff(WATER, 200, 10, 60, 15);
            setTariff(HEAT, 400, 25, 80, 40);
        }

        private void setTariff(int good, int base, int price, int step, int dear) {
            tariffs[good][BASE] = base;
            tariffs[good][PRICE] = price;
            tariffs[good][STEP] = step;
            tariffs[good][DEAR] = dear;
        }

        void copyFrom(Books o) {
            copyTable(o.tariffs, tariffs);
            copyLongs(o.journal, journal);
            wages = o.wages;
            orders = o.orders;
            copyLongTable(o.bills, bills);
            copyRow(o.billCount, billCount);
            copyRow(o.countedThen, countedThen);
            copyRow(o.dryThen, dryThen);
            copyLongs(o.credit, credit);
            for (int k = 0; k < CUSTOMERS; k++) {
                poor[k] = o.poor[k];
            }
            copyLongTable(o.plans, plans);
        }

        void spend(int cents) {
            journal[MONEY] -= cents;
            journal[SPENT] += cents;
        }

        long[] billOf(int customer, int bill) {
            return bills[MOST_BILLS * customer + bill];
        }

        long owedBy(int customer) {
            long sum = -credit[customer];
            for (int b = 0; b < billCount[customer]; b++) {
                sum += billOf(customer, b)[OPEN];
            }
            return sum;
        }

        long owedByAll() {
            long sum = 0;
            for (int k = 0; k < CUSTOMERS; k++) {
                sum += owedBy(k);
            }
            return sum;
        }

        void payIn(int customer, int cents) {
            journal[MONEY] += cents;
            journal[PAID] += cents;
            credit[customer] += cents;
            useCredit(customer);
            long[] plan = plans[customer];
            if (plan[PARTS] > 0) {
                plan[PAID_IN] += cents;
                if (plan[PAID_IN] >= plan[TOTAL]) {
                    endPlan(customer);
                }
            }
        }

        /** CREDIT pays what is OPEN, of the lowest BILL first. */
        private void useCredit(int customer) {
            for (int b = 0; b < billCount[customer]; b++) {
                long[] bill = billOf(customer, b);
                long part = Math.min(bill[OPEN], credit[customer]);
                bill[OPEN] -= part;
                credit[customer] -= part;
            }
        }

        boolean hasPlan(int customer) {
            return plans[customer][PARTS] > 0;
        }

        void makePlan(int customer, int parts, int day) {
            long[] plan = plans[customer];
            plan[PARTS] = parts;
            plan[MADE_ON] = day;
            plan[PAID_IN] = 0;
            plan[TOTAL] = owedBy(customer);
        }

        private void endPlan(int customer) {
            plans[customer][PARTS] = 0;
            plans[customer][PAID_IN] = 0;
        }

        /** The first INSTALMENTS of a PLAN, so many, together; the first one has what is left besides. */
        long dueBy(int customer, long many) {
            long[] plan = plans[customer];
            if (plan[PARTS] <= 0) {
                return 0;
            }
            return plan[TOTAL] - (plan[PARTS] - many) * (plan[TOTAL] / plan[PARTS]);
        }

        long nextDue(int customer, int day) {
            long[] plan = plans[customer];
            if (plan[PARTS] <= 0) {
                return NONE;
            }
            long behind = day - plan[MADE_ON];
            return plan[MADE_ON] + 10 * Math.max(1, (behind + 9) / 10);
        }

        private void lookAtPlan(int customer, int day) {
            long[] plan = plans[customer];
            long behind = day - plan[MADE_ON];
            boolean due = plan[PARTS] > 0 && behind > 0 && behind % 10 == 0;
            if (due && plan[PAID_IN] < dueBy(customer, behind / 10)) {
                endPlan(customer);
                plan[FAILED]++;
            }
        }

        private void addInterest(int customer) {
            for (int b = 0; b < billCount[customer]; b++) {
                long[] bill = billOf(customer, b);
                long more = bill[OPEN] / 100;
                bill[OPEN] += more;
                journal[EARNED] += more;
            }
        }

        private boolean isEstimated(Town t, int customer, int good) {
            int[] meter = t.customers.meterOf(customer, good);
            return meter[Customers.RIGHT_SINCE_BILL] == 0 && t.customers.isConnected(customer, good);
        }

        /** The ITEM of a GOOD, with the READING that a BILL would make first. */
        private long itemNow(Town t, int customer, int good) {
            int place = GOODS * customer + good;
            int[] tariff = tariffs[good];
            long metered = t.customers.meterOf(customer, good)[Customers.COUNTED] - countedThen[place];
            if (isEstimated(t, customer, good)) {
                metered += t.customers.estimateOn(customer, good, t.day);
            }
            long dear = Math.max(0, metered - tariff[STEP]);
            long base = t.customers.isConnected(customer, good) ? tariff[BASE] : 0;
            return base + (metered - dear) * tariff[PRICE] + dear * tariff[DEAR];
        }

        private long refundNow(Town t, int customer) {
            long days = 0;
            for (int good = 0; good < GOODS; good++) {
                int dry = t.customers.rows[customer][Customers.DRY + good];
                days += dry - dryThen[GOODS * customer + good];
            }
            return REFUND_A_DAY * days;
        }

        long sumNow(Town t, int customer) {
            long sum = -refundNow(t, customer);
            for (int good = 0; good < GOODS; good++) {
                sum += itemNow(t, customer, good);
            }
            return sum;
        }

        private void makeBill(Town t, int customer) {
            if (billCount[customer] >= MOST_BILLS) {
                return;
            }
            long[] bill = billOf(customer, billCount[customer]);
            bill[BILL_DAY] = t.day;
            bill[REFUND] = refundNow(t, customer);
            bill[SUM] = sumNow(t, customer);
            for (int good = 0; good < GOODS; good++) {
                int place = GOODS * customer + good;
                int[] meter = t.customers.meterOf(customer, good);
                bill[ITEMS + good] = itemNow(t, customer, good);
                if (isEstimated(t, customer, good)) {
                    t.customers.readEstimated(customer, good, t.day);
                }
                meter[Customers.RIGHT_SINCE_BILL] = 0;
                countedThen[place] = meter[Customers.COUNTED];
                dryThen[place] = t.customers.rows[customer][Customers.DRY + good];
            }
            billCount[customer]++;
            settle(customer, bill);
        }

        private void settle(int customer, long[] bill) {
            bill[GIFT] = bill[SUM] > 0 && poor[customer] ? Math.min(bill[SUM] / 2, journal[FUND]) : 0;
            bill[OPEN] = Math.max(0, bill[SUM] - bill[GIFT]);
            journal[EARNED] += bill[SUM];
            journal[FUND] -= bill[GIFT];
            journal[MONEY] += bill[GIFT];
            journal[GIVEN] += bill[GIFT];
            credit[customer] += Math.max(0, -bill[SUM]);
            useCredit(customer);
        }

        int noticeOn(int customer, int day) {
            if (hasPlan(customer)) {
                return 0;
            }
            for (int b = 0; b < billCount[customer]; b++) {
                long[] bill = billOf(customer, b);
                if (bill[OPEN] > 0) {
                    long days = day - bill[BILL_DAY];
                    return days > 40 ? 3 : days > 30 ? 2 : days > 20 ? 1 : 0;
                }
            }
            return 0;
        }

        private void tellJobs(Town t, int customer) {
            int[] row = t.customers.rows[customer];
            boolean cut = noticeOn(customer, t.day) == 3 && row[Customers.RANK] > 0
                    && row[Customers.CONNECTED] != 0;
            if (cut && !t.crews.isTold(Crews.CUT, customer)) {
                t.crews.tellJob(Crews.CUT, 0, customer, 3);
            }
            boolean again = row[Customers.CUT] != 0 && owedBy(customer) <= 0;
            if (again && !t.crews.isTold(Crews.CONNECT, customer)) {
                t.crews.tellJob(Crews.CONNECT, 0, customer, 5);
            }
        }

        void goBy(Town t) {
            for (int k = 0; k < t.customers.count; k++) {
                lookAtPlan(k, t.day);
                if (t.day % MONTH == MONTH - 1) {
                    addInterest(k);
                    makeBill(t, k);
                }
                tellJobs(t, k);
            }
        }

        boolean isWell() {
            boolean owed = owedByAll() == journal[EARNED] - journal[PAID] - journal[GIVEN];
            long held = journal[MONEY] + journal[FUND];
            if (!owed || held != FIRST_MONEY + journal[PAID] - journal[SPENT]) {
                return false;
            }
            for (int k = 0; k < CUSTOMERS; k++) {
                if (credit[k] < 0) {
                    return false;
                }
                for (int b = 0; b < billCount[k]; b++) {
                    long open = billOf(k, b)[OPEN];
                    if (open < 0 || open > 0 && credit[k] > 0) {
                        return false;
                    }
                }
            }
            return true;
        }
    }

    /** The CREWS and their JOBS. */
    private static final class Crews {
        static final int CREWS = 4;
        static final int AT = 0;
        static final int SKILLS = 1;
        static final int PACE = 2;
        static final int JOB = 3;
        static final int SPELLS = 4;
        static final int OVERTIME = 5;
        static final int DONE_BY = 6;

        static final int JOBS = 200;
        static final int JOBS_AT_ONCE = 16;
        static final int KIND = 0;
        static final int GOOD = 1;
        static final int PLACE = 2;
        static final int URGENCY = 3;
        static final int STATE = 4;
        static final int CREW = 5;

        static final int DIG = 0;
        static final int FILL = 1;
        static final int MEND = 2;
        static final int LAY = 3;
        static final int READ = 4;
        static final int CUT = 5;
        static final int CONNECT = 6;

        static final int WAITS = 0;
        static final int TAKEN = 1;
        static final int DONE = 2;
        static final int DROPPED = 3;

        static final int DIGGING = 3;
        static final int WITH_CUSTOMERS = 4;
        static final int LAID_BOUND = 40;

        /** How many SPELLS each KIND takes. */
        static final int[] TAKES = {1, 1, 2, 3, 1, 1, 1};

        int count;
        final int[][] rows = new int[CREWS][7];
        int jobCount;
        final int[][] jobs = new int[JOBS][6];

        Crews() {
            hireCrew(0, 1 << POWER | 1 << WATER | 1 << DIGGING, 2);
            hireCrew(5, 1 << HEAT | 1 << DIGGING | 1 << WITH_CUSTOMERS, 3);
        }

        void copyFrom(Crews o) {
            count = o.count;
            copyTable(o.rows, rows);
            jobCount = o.jobCount;
            copyTable(o.jobs, jobs);
        }

        int hireCrew(int crossing, int skills, int pace) {
            int[] row = rows[count];
            row[AT] = crossing;
            row[SKILLS] = skills;
            row[PACE] = pace;
            row[JOB] = NONE;
            count++;
            return count - 1;
        }

        boolean isOver(int job) {
            return jobs[job][STATE] == DONE || jobs[job][STATE] == DROPPED;
        }

        int notOver() {
            int many = 0;
            for (int j = 0; j < jobCount; j++) {
                many += bit(!isOver(j));
            }
            return many;
        }

        boolean isTold(int kind, int customer) {
            for (int j = 0; j < jobCount; j++) {
                if (jobs[j][KIND] == kind && jobs[j][PLACE] == customer && !isOver(j)) {
                    return true;
                }
            }
            return false;
        }

        /** Returns the number of a new JOB, or NONE if none can be told. */
        int tellJob(int kind, int good, int place, int urgency) {
            if (jobCount >= JOBS || notOver() >= JOBS_AT_ONCE) {
                return NONE;
            }
            int[] job = jobs[jobCount];
            job[KIND] = kind;
            job[GOOD] = good;
            job[PLACE] = place;
            job[URGENCY] = urgency;
            job[STATE] = WAITS;
            job[CREW] = NONE;
            jobCount++;
            return jobCount - 1;
        }

        /** A CREW has no JOB then, and that WAITS again. */
        void putBack(int crew) {
            int[] row = rows[crew];
            int job = row[JOB];
            if (job != NONE) {
                jobs[job][STATE] = WAITS;
                jobs[job][CREW] = NONE;
            }
            row[JOB] = NONE;
            row[SPELLS] = 0;
        }

        private int skillFor(int[] job) {
            if (job[KIND] == DIG || job[KIND] == FILL) {
                return DIGGING;
            }
            return job[KIND] >= READ ? WITH_CUSTOMERS : job[GOOD];
        }

        private int spotOf(Town t, int[] job) {
            return job[KIND] >= READ ? t.customers.rows[job[PLACE]][0] : LOW[job[PLACE]];
        }

        /** The JOB that a CREW without one takes; how far each CROSSING is was found ahead of it. */
        int bestJob(Town t, int crew) {
            int best = NONE;
            int bestFar = 0;
            for (int j = 0; j < jobCount; j++) {
                int[] job = jobs[j];
                int far = t.ways.far[spotOf(t, job)];
                boolean skilled = (rows[crew][SKILLS] >> skillFor(job) & 1) == 1;
                boolean may = job[KIND] == MEND || !t.sky.alarm;
                if (job[STATE] == WAITS && skilled && may && far != NONE) {
                    int more = best == NONE ? 1 : job[URGENCY] - jobs[best][URGENCY];
                    if (more > 0 || more == 0 && far < bestFar) {
                        best = j;
                        bestFar = far;
                    }
                }
            }
            return best;
        }

        void goBy(Town t) {
            for (int k = 0; k < count; k++) {
                int[] row = rows[k];
                boolean hadJob = row[JOB] != NONE;
                if (hadJob && t.sky.alarm && jobs[row[JOB]][KIND] != MEND) {
                    putBack(k);
                }
                t.grid.openStreets(t.ways);
                t.ways.spread(row[AT], t.grid.height, TOP);
                if (row[JOB] == NONE) {
                    takeJob(k, bestJob(t, k));
                }
                hadJob = hadJob || row[JOB] != NONE;
                work(t, k);
                int wage = !hadJob ? 100 : row[OVERTIME] == 1 ? 500 : 200;
                t.books.spend(wage);
                t.books.wages += wage;
            }
        }

        private void takeJob(int crew, int job) {
            if (job != NONE) {
                rows[crew][JOB] = job;
                rows[crew][SPELLS] = 0;
                jobs[job][STATE] = TAKEN;
                jobs[job][CREW] = crew;
            }
        }

        private void work(Town t, int crew) {
            int[] row = rows[crew];
            if (row[JOB] == NONE) {
                return;
            }
            int spot = spotOf(t, jobs[row[JOB]]);
            int streets = t.ways.trace(spot);
            for (int k = 0; k < streets && k < row[PACE]; k++) {
                int street = t.ways.steps[k];
                row[AT] = LOW[street] + HIGH[street] - row[AT];
            }
            int spells = row[OVERTIME] == 1 ? 2 : 1;
            for (int k = 0; k < spells && row[AT] == spot; k++) {
                doSpell(t, crew);
            }
        }

        private void doSpell(Town t, int crew) {
            int[] row = rows[crew];
            if (row[JOB] == NONE) {
                return;
            }
            int[] job = jobs[row[JOB]];
            boolean idle = hasNothingToDo(t, job);
            if (!idle && lacksSomething(t, job, row[SPELLS])) {
                return;
            }
            if (!idle && row[SPELLS] == 0 && partsFor(job) > 0) {
                t.stores.take(job[GOOD], partsFor(job));
            }
            row[SPELLS]++;
            if (idle || row[SPELLS] >= TAKES[job[KIND]]) {
                if (!idle) {
                    finish(t, job);
                }
                job[STATE] = DONE;
                row[JOB] = NONE;
                row[SPELLS] = 0;
                row[DONE_BY]++;
            }
        }

        private boolean hasNothingToDo(Town t, int[] job) {
            int place = job[PLACE];
            switch (job[KIND]) {
                case DIG:
                    return t.grid.isDug(place);
                case FILL:
                    return !t.grid.isDug(place);
                case MEND:
                    return !t.grid.isBroken(job[GOOD], place);
                case LAY:
                    return t.grid.hasLink(job[GOOD], place);
                case CUT:
                    return t.customers.rows[place][Customers.CONNECTED] == 0;
                case CONNECT:
                    return t.customers.rows[place][Customers.CUT] == 0;
                default:
                    return false;
            }
        }

        private int partsFor(int[] job) {
            return job[KIND] == MEND ? 1 : job[KIND] == LAY ? 2 : 0;
        }

        private boolean lacksSomething(Town t, int[] job, int spells) {
            if (job[KIND] == DIG) {
                return !t.grid.mayDigFor(job[GOOD], job[PLACE], t.day);
            }
            int parts = partsFor(job);
            if (parts == 0) {
                return false;
            }
            boolean buried = job[GOOD] != POWER && !t.grid.isDug(job[PLACE]);
            return buried || spells == 0 && !t.stores.has(job[GOOD], parts);
        }

        private void finish(Town t, int[] job) {
            int place = job[PLACE];
            switch (job[KIND]) {
                case DIG:
                    t.grid.streets[place][Grid.DUG] = 1;
                    break;
                case FILL:
                    t.grid.fill(place, t.day);
                    break;
                case MEND:
                    t.grid.makeSound(job[GOOD], place, t.ways);
                    break;
                case LAY:
                    t.grid.putLink(job[GOOD], place, LAID_BOUND, false);
                    break;
                case READ:
                    for (int good = 0; good < GOODS; good++) {
                        t.customers.readRight(place, good, t.day);
                    }
                    break;
                case CUT:
                    t.customers.cutOff(place);
                    break;
                default:
                    t.customers.hookAgain(place);
                    break;
            }
        }

        boolean isWell() {
            int taken = 0;
            for (int j = 0; j < jobCount; j++) {
                taken += bit(jobs[j][STATE] == TAKEN);
            }
            int busy = 0;
            for (int k = 0; k < count; k++) {
                int job = rows[k][JOB];
                if (job != NONE && (jobs[job][STATE] != TAKEN || jobs[job][CREW] != k)) {
                    return false;
                }
                busy += bit(job != NONE);
            }
            return taken == busy && notOver() <= JOBS_AT_ONCE;
        }
    }

    /** The STORES and the ORDERS for them. */
    private static final class Stores {
        static final int PARTS = 4;
        static final int FUEL = 3;
        static final int STOCK = 0;
        static final int LEAST = 2;
        static final int TAKEN = 4;
        static final int CAME = 5;
        static final int GONE = 6;

        static final int ORDERS = 8;
        static final int PART = 0;
        static final int MANY_OF_IT = 1;
        static final int DUE = 2;

        static final int MOST = 999;
        static final int DAYS_TO_COME = 5;
        static final int[] PRICES = {400, 250, 600, 5};
        static final int[] AT_FIRST = {4, 4, 2, 200};

        final int[][] rows = new int[PARTS][7];
        final int[][] coming = new int[ORDERS][3];

        Stores() {
            for (int p = 0; p < PARTS; p++) {
                rows[p][STOCK] = AT_FIRST[p];
            }
            for (int k = 0; k < ORDERS; k++) {
                coming[k][PART] = NONE;
            }
        }

        void copyFrom(Stores o) {
            copyTable(o.rows, rows);
            copyTable(o.coming, coming);
        }

        boolean has(int part, int many) {
            return rows[part][STOCK] >= many;
        }

        void take(int part, int many) {
            rows[part][STOCK] -= many;
            rows[part][TAKEN] += many;
        }

        /** How many of a PART are ordered and have not come. */
        int ordered(int part) {
            int sum = 0;
            for (int k = 0; k < ORDERS; k++) {
                sum += coming[k][PART] == part ? coming[k][MANY_OF_IT] : 0;
            }
            return sum;
        }

        private int freeOrder() {
            for (int k = 0; k < ORDERS; k++) {
                if (coming[k][PART] == NONE) {
                    return k;
                }
            }
            return NONE;
        }

        boolean canOrder(Books books, int part, int many) {
            return freeOrder() != NONE && books.journal[Books.MONEY] >= PRICES[part] * many;
        }

        int makeOrder(Town t, int part, int many) {
            int number = freeOrder();
            if (number == NONE) {
                return 0;
            }
            int cost = PRICES[part] * many;
            coming[number][PART] = part;
            coming[number][MANY_OF_IT] = many;
            coming[number][DUE] = t.day + DAYS_TO_COME;
            t.books.spend(cost);
            t.books.orders += cost;
            return cost;
        }

        void goBy(Town t) {
            for (int k = 0; k < ORDERS; k++) {
                if (coming[k][PART] != NONE && coming[k][DUE] <= t.day) {
                    store(coming[k][PART], coming[k][MANY_OF_IT]);
                    coming[k][PART] = NONE;
                }
            }
            for (int p = 0; p < PARTS; p++) {
                int there = rows[p][STOCK] + ordered(p);
                int many = 2 * rows[p][LEAST] - there;
                if (there < rows[p][LEAST] && canOrder(t.books, p, many)) {
                    makeOrder(t, p, many);
                }
            }
        }

        private void store(int part, int many) {
            int[] row = rows[part];
            int kept = Math.min(many, MOST - row[STOCK]);
            row[STOCK] += kept;
            row[CAME] += many;
            row[GONE] += many - kept;
        }

        boolean isWell() {
            for (int p = 0; p < PARTS; p++) {
                int[] row = rows[p];
                if (row[STOCK] != AT_FIRST[p] + row[CAME] - row[GONE] - row[TAKEN]) {
                    return false;
                }
            }
            return true;
        }
    }

    /** The weather, the STORMS, and the REPORT. */
    private static final class Sky {
        static final int STORMS = 4;
        static final int ROW = 0;
        static final int STRENGTH = 1;
        static final int COLUMN = 2;
        static final int BROKE = 3;

        static final int LINES_BROKEN = 0;
        static final int PIPES_BROKEN = 1;
        static final int DARK_DAYS = 2;
        static final int SHORT_DAYS = 3;
        static final int CHILLED_DAYS = 4;
        static final int FLOODS = 5;

        int temperature = 10;
        int wind = 2;
        int rain;
        boolean drawn;
        int seed = 1;
        boolean alarm;
        final int[][] storms = new int[STORMS][4];
        final int[] report = new int[6];

        Sky() {
            for (int k = 0; k < STORMS; k++) {
                storms[k][ROW] = NONE;
            }
        }

        void copyFrom(Sky o) {
            temperature = o.temperature;
            wind = o.wind;
            rain = o.rain;
            drawn = o.drawn;
            seed = o.seed;
            alarm = o.alarm;
            copyTable(o.storms, storms);
            copyRow(o.report, report);
        }

        int cold() {
            return Math.max(0, 18 - temperature);
        }

        private int nextSeed() {
            return (75 * seed + 74) % 65537;
        }

        /** The RAIN of the next DAY. */
        int nextRain() {
            return drawn ? nextSeed() / 310 % 10 : rain;
        }

        int tells(int what) {
            switch (what) {
                case 0:
                    return temperature;
                case 1:
                    return wind;
                case 2:
                    return rain;
                case 3:
                    return bit(drawn);
                case 4:
                    return seed;
                case 5:
                    return bit(alarm);
                default:
                    return stormCount();
            }
        }

        boolean isStorm(int storm) {
            return storms[storm][ROW] != NONE;
        }

        private int stormCount() {
            int many = 0;
            for (int k = 0; k < STORMS; k++) {
                many += bit(isStorm(k));
            }
            return many;
        }

        int freeStorm() {
            for (int k = 0; k < STORMS; k++) {
                if (!isStorm(k)) {
                    return k;
                }
            }
            return NONE;
        }

        void tellStorm(int number, int row, int strength) {
            storms[number][ROW] = row;
            storms[number][STRENGTH] = strength;
            storms[number][COLUMN] = NONE;
            storms[number][BROKE] = 0;
        }

        private boolean isOver(int storm, int crossing) {
            int[] row = storms[storm];
            return row[ROW] != NONE && row[COLUMN] == crossing % COLUMNS
                    && Math.abs(crossing / COLUMNS - row[ROW]) <= 1;
        }

        /** A STORM has its STRENGTH where it is, even below the WIND. */
        int forceAt(int crossing) {
            int most = NONE;
            for (int k = 0; k < STORMS; k++) {
                if (isOver(k, crossing)) {
                    most = Math.max(most, storms[k][STRENGTH]);
                }
            }
            return most == NONE ? wind : most;
        }

        private boolean strikes(Grid grid, int crossing) {
            int force = forceAt(crossing);
            return force >= 5 && grid.height[crossing] + 10 * force >= 90;
        }

        void goBy(Town t) {
            if (drawn) {
                seed = nextSeed();
                temperature = seed % 31 - 10;
                wind = seed / 31 % 10;
                rain = seed / 310 % 10;
            }
            moveStorms();
            for (int s = 0; s < STREETS; s++) {
                int[] line = t.grid.linkOf(POWER, s);
                if (line[Grid.SOUND] == 1 && (strikes(t.grid, LOW[s]) || strikes(t.grid, HIGH[s]))) {
                    line[Grid.SOUND] = 0;
                    countBroken(s);
                }
                int floods = bit(t.grid.isUnder(s, rain));
                t.grid.streets[s][Grid.FLOODED] = floods;
                report[FLOODS] += floods;
            }
        }

        private void moveStorms() {
            for (int k = 0; k < STORMS; k++) {
                int[] storm = storms[k];
                if (storm[ROW] != NONE) {
                    storm[COLUMN]++;
                    if (storm[COLUMN] >= COLUMNS) {
                        storm[ROW] = NONE;
                    }
                }
            }
        }

        private void countBroken(int street) {
            report[LINES_BROKEN]++;
            for (int k = 0; k < STORMS; k++) {
                if (isOver(k, LOW[street]) || isOver(k, HIGH[street])) {
                    storms[k][BROKE]++;
                }
            }
        }

        boolean isWell() {
            for (int k = 0; k < STORMS; k++) {
                if (storms[k][ROW] != NONE && storms[k][COLUMN] >= COLUMNS) {
                    return false;
                }
            }
            return true;
        }
    }
}
