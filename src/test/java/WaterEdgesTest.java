/** The edges that the document names of WATER: promises 11 to 14. */
public final class WaterEdgesTest {
    /** A quiet town that is flat: each HEIGHT is 0. */
    private static UtilityWorks flat() {
        UtilityWorks x = Edges.quiet();
        for (int c = 0; c < 12; c++) {
            x.height(c, 0);
        }
        return x;
    }

    /** A WELL RUNS on a DAY, if it is on, and POWERED. */
    static void aWellRunsIfOnAndPowered() {
        UtilityWorks x = Edges.quiet();
        Edges.due("off", x.wellIs(0, 4) * 100 + x.wellIs(0, 5), 0);
        x.pump(0, true);
        Edges.due("on and powered", x.wellIs(0, 4) * 100 + x.wellIs(0, 5), 140);
        x.start(0, false);
        x.start(1, false);
        Edges.due("not powered", x.wellIs(0, 4) * 100 + x.wellIs(0, 5), 0);
        x.plant(8, 4);
        Edges.due("a little too little", x.wellIs(0, 4), 0);
        x.plant(4, 1);
        Edges.due("just enough", x.wellIs(0, 4), 1);
    }

    /** A WELL can give its YIELD, and no more; what it could give yet stays in the ground. */
    static void aWellGivesUpToItsYield() {
        UtilityWorks x = Edges.quiet();
        x.turn(1, 2, false);
        x.well(2, 5, 0);
        int customer = Edges.customer(x, 2, 0, 1, 5);
        Edges.due("all of it", x.waterAt(2, 1), 5);
        x.need(customer, 1, 6);
        Edges.due("no more", x.waterAt(2, 1), 5);
        x.need(customer, 1, 4);
        Edges.due("what is wanted", x.wellIs(2, 5), 4);
        x.pass(1);
        Edges.due("the rest stays", x.waterSum(0), 4);
    }

    /** A TANK can give what its LEVEL is above its RESERVE, if it is. */
    static void aTankGivesWhatIsAboveItsReserve() {
        UtilityWorks x = Edges.quiet();
        x.connect(2, 1, true);
        int[][] rows = {{147, 3, 147}, {148, 2, 148}, {149, 1, 149}, {150, 0, 150}, {151, 0, 150}, {200, 0, 150},
            {0, 3, 147}};
        for (int[] r : rows) {
            x.reserve(0, r[0]);
            Edges.due("with a reserve of " + r[0], x.waterAt(3, 1), r[1]);
            Edges.due("its level then", x.tankIs(0, 5), r[2]);
        }
    }

    /** HEAD: of a TANK the HEIGHT of its CROSSING and a tenth of its LEVEL, of a WELL that and its LIFT. */
    static void headsByLevels() {
        UtilityWorks x = Edges.quiet();
        Edges.due("150", x.tankIs(0, 4), 50);
        x.fire(3, 1);
        Edges.due("149", x.tankIs(0, 4), 49);
        x.fire(3, 9);
        Edges.due("140", x.tankIs(0, 4), 49);
        x.fire(3, 1);
        Edges.due("139", x.tankIs(0, 4), 48);
        x.fire(3, 139);
        Edges.due("empty", x.tankIs(0, 4), 35);
        x.height(3, 99);
        Edges.due("higher up", x.tankIs(0, 4), 99);
        x.well(0, 1, 0);
        Edges.due("without a lift", x.wellIs(2, 6), 20);
        x.height(0, 99);
        Edges.due("higher up", x.wellIs(2, 6), 99);
        x.height(8, 99);
        Edges.due("above all", x.wellIs(0, 6), 149);
        UtilityWorks y = twoTanks();
        y.tank(0, 9, 0);
        int[] heads = {15, 4, 4, 0};
        for (int tank = 0; tank < 4; tank++) {
            Edges.due("the head of the tank " + tank, y.tankIs(tank, 4), heads[tank]);
        }
    }

    /** By no CROSSING, the last one with them, that is higher than the HEAD of the SOURCE as the DAY begins. */
    static void waterGoesUpToTheHead() {
        UtilityWorks x = Edges.quiet();
        x.connect(4, 1, true);
        Edges.due("from 3 to 9", x.waterAt(9, 1), 3);
        for (int c : new int[] {2, 1, 5, 9}) {
            int was = x.height(c, 50);
            Edges.due("as high as the head, " + c, x.waterAt(9, 1), 3);
            x.height(c, 51);
            Edges.due("higher, " + c, x.waterAt(9, 1), 0);
            x.height(c, was);
        }
        x.height(0, 99);
        Edges.due("one that is not on the way", x.waterAt(9, 1), 3);
        x.reserve(0, 0);
        Edges.customer(x, 3, 0, 1, 20);
        x.height(9, 50);
        Edges.due("the head as the day begins", x.waterAt(9, 1), 3);
        x.pass(1);
        Edges.due("lower on the next day", x.waterAt(9, 1), 0);
        Edges.due("so it was given", x.customerIs(4, 7), 3);
    }

    /** A PIPE that is BROKEN, but ON, is a HOLE at the lower one of its ends, of two alike at the lower number. */
    static void aHoleIsAtTheLowerEnd() {
        UtilityWorks x = Edges.quiet();
        x.breaks(1, 0);
        Edges.due("hole", x.pipeIs(0, 5), 1);
        Edges.due("at the lower end", x.waterAt(0, 0) * 100 + x.waterAt(1, 0), 2000);
        x.height(0, 25);
        Edges.due("of two alike", x.waterAt(0, 0) * 100 + x.waterAt(1, 0), 2000);
        x.height(0, 26);
        Edges.due("at the other end", x.waterAt(0, 0) * 100 + x.waterAt(1, 0), 20);
        x.breaks(1, 1);
        Edges.due("two holes at one crossing", x.waterAt(1, 0), 40);
        x.turn(1, 0, false);
        Edges.due("off it is none", x.pipeIs(0, 5) * 100 + x.waterAt(1, 0), 20);
        x.turn(1, 0, true);
        Edges.due("on it is one", x.pipeIs(0, 5) * 100 + x.waterAt(1, 0), 140);
        Edges.due("a sound one is none", x.pipeIs(2, 5), 0);
        UtilityWorks y = Edges.quiet();
        y.breaks(1, 0);
        y.height(1, 0);
        Edges.due("it gets what it wants", y.waterAt(1, 1) * 100 + y.waterAt(1, 2), 2020);
        y.pass(1);
        Edges.due("holes took that", y.waterSum(4), 20);
    }

    /** For each PIPE that LEADS, and for which it is the end with the lower number, the LEAK. */
    static void aLeakIsAtTheLowerNumber() {
        UtilityWorks x = Edges.quiet();
        Edges.due("leak", x.leak(9, 9), 0);
        Edges.due("not at the lower end", x.waterAt(0, 0) * 100 + x.waterAt(4, 0), 900);
        Edges.due("leak", x.leak(0, 1), 0);
        Edges.due("two pipes", x.waterAt(0, 0), 10);
        x.turn(1, 9, false);
        Edges.due("off", x.waterAt(0, 0), 1);
        x.turn(1, 9, true);
        x.breaks(1, 9);
        Edges.due("broken: a hole, no leak", x.waterAt(0, 0) * 100 + x.waterAt(4, 0), 120);
        Edges.due("leak", x.leak(9, 0), 9);
        Edges.due("leak", x.leak(0, 0), 1);
        Edges.due("none", x.waterAt(0, 0), 0);
    }

    /**
     * What the CROSSING 3 GETS goes to a HOLE (20), a LEAK (5), a BOILER (10), and CUSTOMERS: the 6 and the 7 of the
     * RANK 1 (4 and 6), the 2 of the RANK 5 (3).
     */
    private static UtilityWorks thirsty() {
        UtilityWorks x = Edges.quiet();
        x.height(3, 20);
        x.breaks(1, 2);
        Edges.layUnder(x, 1, 12, 40);
        x.leak(12, 5);
        x.boiler(3, 100);
        x.light(1, true);
        x.connect(2, 1, true);
        Edges.customer(x, 3, 1, 1, 4);
        Edges.customer(x, 3, 1, 1, 6);
        return x;
    }

    /** To all HOLES, then to all PIPES, then to the BOILER, then to CUSTOMERS by their RANKS. */
    static void whoGetsWaterFirst() {
        UtilityWorks x = thirsty();
        Edges.due("wants", x.waterAt(3, 0), 48);
        x.keep(0);
        share(x, 0, 0, 0, 0, 0, 0, 0);
        share(x, 1, 1, 0, 0, 0, 0, 0);
        share(x, 20, 20, 0, 0, 0, 0, 0);
        share(x, 21, 20, 1, 0, 0, 0, 0);
        share(x, 25, 20, 5, 0, 0, 0, 0);
        share(x, 26, 20, 5, 1, 0, 0, 0);
        share(x, 35, 20, 5, 10, 0, 0, 0);
        share(x, 36, 20, 5, 10, 1, 0, 0);
        share(x, 39, 20, 5, 10, 4, 0, 0);
        share(x, 40, 20, 5, 10, 4, 1, 0);
        share(x, 45, 20, 5, 10, 4, 6, 0);
        share(x, 46, 20, 5, 10, 4, 6, 1);
        share(x, 48, 20, 5, 10, 4, 6, 3);
        share(x, 49, 20, 5, 10, 4, 6, 3);
    }

    private static void share(UtilityWorks x, int given, int holes, int leaks, int boiler, int... customers) {
        int[] who = {6, 7, 2};
        x.bring(0);
        x.reserve(0, 150 - given);
        int sum = customers[0] + customers[1] + customers[2];
        Edges.due("gets of " + given, x.waterAt(3, 1), Math.min(48, given));
        Edges.due("runs out of " + given, x.waterAt(3, 2), holes + leaks);
        Edges.due("to the boiler of " + given, x.waterAt(3, 3), boiler);
        Edges.due("to customers of " + given, x.waterAt(3, 4), sum);
        x.pass(1);
        for (int k = 0; k < 3; k++) {
            Edges.due("to the customer " + who[k] + " of " + given, x.customerIs(who[k], 7), customers[k]);
        }
        Edges.due("sum of customers", x.waterSum(1), sum);
        Edges.due("sum of boilers", x.waterSum(2), boiler);
        Edges.due("sum of leaks", x.waterSum(3), leaks);
        Edges.due("sum of holes", x.waterSum(4), holes);
        Edges.due("short", x.waterAt(3, 5), sum < 13 ? 1 : 0);
    }

    /** Of all SOURCES and CROSSINGS the two with the fewest PIPES, of several the first SOURCE, the lowest CROSSING. */
    static void theTurnWithTheFewestPipes() {
        UtilityWorks x = Edges.quiet();
        x.reserve(0, 150);
        x.well(1, 5, 50);
        Edges.customer(x, 2, 0, 1, 5);
        Edges.due("one pipe away", x.waterAt(2, 1), 5);
        Edges.customer(x, 0, 9, 1, 5);
        Edges.due("the lowest crossing", x.waterAt(0, 1) * 10 + x.waterAt(2, 1), 50);
        int own = Edges.customer(x, 1, 9, 1, 3);
        Edges.due("its own crossing", x.waterAt(1, 1) * 100 + x.waterAt(0, 1) * 10 + x.waterAt(2, 1), 320);
        x.need(own, 1, 9);
        Edges.due("all to its own", x.waterAt(1, 1) * 100 + x.waterAt(0, 1) * 10 + x.waterAt(2, 1), 500);
    }

    /** The SOURCES: the WELLS by their numbers, then the TANKS. */
    static void wellsAheadOfTanks() {
        UtilityWorks x = Edges.quiet();
        x.well(1, 5, 50);
        Edges.customer(x, 2, 0, 1, 5);
        Edges.due("the well", x.pipeIs(1, 2), 5);
        Edges.due("not the tank", x.pipeIs(2, 2) + x.pipeIs(2, 3), 0);
        UtilityWorks y = Edges.quiet();
        y.turn(1, 2, false);
        y.pump(1, true);
        y.well(0, 20, 50);
        Edges.customer(y, 1, 0, 1, 15);
        Edges.due("the well 1", y.wellIs(1, 5), 15);
        Edges.due("not the well 2", y.wellIs(2, 5), 0);
        Edges.customer(y, 1, 0, 1, 10);
        Edges.due("then the well 2", y.wellIs(2, 5), 5);
    }

    /** A flat town with two TANKS at 4 and at 1, of 40 each, which are full, and no other SOURCE that can give. */
    private static UtilityWorks twoTanks() {
        UtilityWorks x = flat();
        x.turn(1, 2, false);
        x.tank(4, 40, 0);
        x.tank(1, 40, 0);
        x.pump(0, true);
        x.pass(1);
        Edges.due("the nearer one first", x.tankIs(1, 2) * 100 + x.tankIs(2, 2), 4000);
        x.pass(1);
        Edges.due("then the other one", x.tankIs(1, 2) * 100 + x.tankIs(2, 2), 4040);
        Edges.due("both are full", x.wellIs(0, 5), 0);
        x.pump(0, false);
        return x;
    }

    /** The TANKS by their numbers. */
    static void tanksByNumbers() {
        UtilityWorks x = twoTanks();
        int customer = Edges.customer(x, 0, 0, 1, 20);
        Edges.due("the first one", x.tankIs(1, 5) * 100 + x.tankIs(2, 5), 2040);
        Edges.customer(x, 0, 0, 1, 20);
        Edges.customer(x, 0, 0, 1, 7);
        Edges.due("then the other one", x.tankIs(1, 5) * 100 + x.tankIs(2, 5), 33);
        x.need(customer, 1, 0);
        x.reserve(1, 39);
        Edges.due("but for its reserve", x.tankIs(1, 5) * 100 + x.tankIs(2, 5), 3900 + 40 - 26);
        UtilityWorks y = twoTanks();
        Edges.customer(y, 4, 0, 1, 9);
        Edges.customer(y, 1, 0, 1, 8);
        Edges.customer(y, 0, 0, 1, 7);
        Edges.due("9 and 7 of the first, 8 of the other", y.tankIs(1, 5) * 100 + y.tankIs(2, 5), 2432);
        y.pump(0, true);
        Edges.due("what they give is filled again", y.tankIs(1, 5) * 100 + y.tankIs(2, 5), 4040);
        Edges.due("by the well", y.wellIs(0, 5), 16 + 8);
    }

    /** A WAY: the fewest PIPES, then the first by the numbers of its CROSSINGS; along PIPES that have room left. */
    static void theFirstWayWithRoom() {
        UtilityWorks x = Edges.quiet();
        x.turn(1, 2, false);
        Edges.layUnder(x, 1, 3, 40);
        x.well(0, 5, 50);
        Edges.customer(x, 5, 0, 1, 5);
        Edges.due("by 1", x.pipeIs(0, 2) * 10 + x.pipeIs(9, 2), 50);
        x.bound(1, 0, 3);
        Edges.due("then by 4", x.pipeIs(0, 2) * 10 + x.pipeIs(9, 2), 32);
        Edges.due("no room left", x.pipeIs(0, 4), 0);
        Edges.due("all comes", x.waterAt(5, 1), 5);
        x.bound(1, 3, 1);
        Edges.due("no more comes", x.waterAt(5, 1), 4);
        x.bound(1, 10, 1);
        Edges.due("by the least room on each way", x.waterAt(5, 1), 2);
        Edges.due("room", x.pipeIs(0, 4), 2);
        x.turn(1, 0, false);
        Edges.due("one that is off", x.waterAt(5, 1), 1);
    }

    /** Each PIPE has room for its BOUND, whichever way the WATER goes. */
    static void roomForBothWays() {
        UtilityWorks x = Edges.quiet();
        x.well(0, 5, 5);
        Edges.customer(x, 1, 0, 1, 5);
        x.height(4, 40);
        x.connect(3, 1, true);
        x.turn(1, 13, false);
        both(x, 40, 5, 5, 30);
        both(x, 10, 5, 5, 0);
        both(x, 9, 5, 4, 0);
        both(x, 5, 5, 0, 0);
        both(x, 4, 4, 0, 0);
    }

    private static void both(UtilityWorks x, int bound, int forth, int back, int room) {
        x.bound(1, 0, bound);
        Edges.due("from the lower end", x.pipeIs(0, 2), forth);
        Edges.due("from the other end", x.pipeIs(0, 3), back);
        Edges.due("room left", x.pipeIs(0, 4), room);
        Edges.due("what comes", x.waterAt(4, 1), back);
        Edges.due("sound", x.isSoundWater(), true);
    }

    /** Each TANK WANTS what its LEVEL, less what it gave, is below its SIZE. */
    static void tanksAreFilledUpToTheirSize() {
        UtilityWorks x = Edges.quiet();
        x.pump(0, true);
        int[] levels = {190, 200, 200};
        int[] given = {40, 10, 0};
        for (int day = 0; day < 3; day++) {
            Edges.due("gives on " + day, x.wellIs(0, 5), given[day]);
            Edges.due("then on " + day, x.tankIs(0, 5), levels[day]);
            x.pass(1);
            Edges.due("level on " + day, x.tankIs(0, 2), levels[day]);
        }
        x.connect(2, 1, true);
        Edges.due("what it gave is filled again", x.wellIs(0, 5), 3);
        Edges.due("its level then", x.tankIs(0, 5), 200);
        x.pass(1);
        Edges.due("wells gave", x.waterSum(0), 53);
        Edges.due("in tanks", x.waterSum(6), 200);
    }

    /** WELLS fill TANKS, of these the one with the lowest CROSSING first; TANKS don't. */
    static void wellsFillTheLowestCrossingFirst() {
        UtilityWorks x = flat();
        x.tank(5, 9, 0);
        x.tank(0, 9, 0);
        Edges.due("no tank fills one", x.tankIs(1, 5) * 10 + x.tankIs(2, 5), 0);
        Edges.due("nor gives", x.tankIs(0, 5), 150);
        x.well(1, 5, 0);
        Edges.due("the lowest crossing", x.tankIs(1, 5) * 10 + x.tankIs(2, 5), 5);
        x.pass(1);
        Edges.due("then the other one", x.tankIs(1, 5) * 10 + x.tankIs(2, 5), 19);
        x.pass(2);
        Edges.due("both to their size, and the first tank", x.tankIs(0, 2), 150);
        Edges.due("both to their size", x.tankIs(1, 2) * 10 + x.tankIs(2, 2), 69);
        x.height(5, 1);
        Edges.due("not above the head of the well", x.tankIs(1, 5), 6);
        Edges.due("the one that is left", x.tankIs(0, 5), 155);
    }

    /** SHORT for one more DAY, if any of its CUSTOMERS gets less than wanted, otherwise for none. */
    static void shortByOneIsShort() {
        UtilityWorks x = Edges.quiet();
        x.connect(2, 1, true);
        x.reserve(0, 148);
        x.pass(1);
        Edges.due("2 of 3", x.waterAt(3, 5), 1);
        x.pass(1);
        Edges.due("none", x.waterAt(3, 5), 2);
        x.reserve(0, 145);
        x.pass(1);
        Edges.due("all", x.waterAt(3, 5), 0);
        x.pass(1);
        Edges.due("none again", x.waterAt(3, 5), 1);
        x.need(2, 1, 0);
        x.pass(1);
        Edges.due("nothing wanted", x.waterAt(3, 5), 0);
        x.need(2, 1, 3);
        x.connect(2, 1, false);
        x.pass(1);
        Edges.due("not connected", x.waterAt(3, 5), 0);
        Edges.due("report", x.report(3), 3);
        x.breaks(1, 0);
        x.reserve(0, 150);
        x.pass(1);
        Edges.due("a hole without customers", x.waterAt(0, 5), 0);
    }

    /** STRAIN: by how much the TEMPERATURE is below 0; with 100 or more it is BROKEN, with the STRAIN 0. */
    static void aPipeBreaksAt100() {
        UtilityWorks x = Edges.quiet();
        x.weather(-30, 0, 0);
        x.pass(3);
        Edges.due("three cold days", x.pipeIs(0, 1), 90);
        x.weather(-9, 0, 0);
        x.pass(1);
        Edges.due("99", x.pipeIs(0, 1), 99);
        Edges.due("sound", x.linkIs(1, 0, 2), 1);
        x.keep(0);
        x.weather(-1, 0, 0);
        x.pass(1);
        Edges.due("100", x.linkIs(1, 0, 2), 0);
        Edges.due("strain", x.pipeIs(0, 1), 0);
        Edges.due("all seven", x.report(1), 7);
        x.pass(5);
        Edges.due("a broken one gets none", x.pipeIs(0, 1), 0);
        Edges.due("nor breaks again", x.report(1), 0);
        x.bring(0);
        x.weather(-30, 0, 0);
        x.pass(1);
        Edges.due("above 100", x.pipeIs(0, 1) * 10 + x.linkIs(1, 0, 2), 0);
    }

    /** STRAIN: half of it, rounded down, if WATER went along it; otherwise (not below 0) 5 less, 0 at least. */
    static void strainWithWaterAndWithoutFrost() {
        UtilityWorks x = Edges.quiet();
        x.connect(4, 1, true);
        x.turn(1, 13, false);
        x.weather(-1, 0, 0);
        x.pass(1);
        Edges.due("half of 1", x.pipeIs(2, 1), 0);
        Edges.due("from the lower end, too", x.pipeIs(14, 1), 0);
        Edges.due("all of 1", x.pipeIs(9, 1), 1);
        Edges.due("one that is off", x.pipeIs(13, 1), 1);
        x.weather(-5, 0, 0);
        x.pass(1);
        Edges.due("half of 5", x.pipeIs(2, 1), 2);
        Edges.due("all of 5", x.pipeIs(9, 1), 6);
        x.weather(0, 0, 0);
        x.pass(1);
        Edges.due("5 less", x.pipeIs(9, 1), 1);
        Edges.due("at least 0", x.pipeIs(2, 1), 0);
        x.pass(1);
        Edges.due("at least 0", x.pipeIs(9, 1), 0);
        x.weather(-5, 0, 0);
        x.pass(1);
        x.weather(40, 0, 0);
        x.pass(1);
        Edges.due("5 less 5", x.pipeIs(9, 1), 0);
    }

    /** fire: RESERVES, too, up to all that is there. */
    static void aFireTakesTheReserve() {
        UtilityWorks x = Edges.quiet();
        Edges.due("fire", x.fire(3, 121), 121);
        Edges.due("below the reserve", x.tankIs(0, 2), 29);
        Edges.due("fire", x.fire(3, 500), 29);
        Edges.due("empty", x.tankIs(0, 2), 0);
        Edges.due("nothing is left", x.fire(3, 1), 0);
        Edges.due("sum", x.waterSum(5), 150);
        Edges.due("sound", x.isSoundWater(), true);
        UtilityWorks y = Edges.quiet();
        Edges.due("no more than asked", y.fire(3, 1), 1);
        Edges.due("level", y.tankIs(0, 2), 149);
    }

    /** fire: the TANKS alone, with the room of all PIPES anew, and for this CROSSING alone. */
    static void aFireHasTheRoomOfAllPipes() {
        UtilityWorks x = new UtilityWorks();
        for (int k = 0; k < 3; k++) {
            Edges.due("a pipe bears 40", x.fire(2, 41), 40);
        }
        Edges.due("the rest", x.fire(2, 41), 30);
        Edges.due("wells give none", x.fire(5, 5), 0);
        Edges.due("nor those where it burns", x.fire(8, 5), 0);
        UtilityWorks y = new UtilityWorks();
        y.leak(1, 9);
        y.breaks(1, 10);
        Edges.due("nothing else is fed", y.fire(2, 40), 40);
        Edges.due("level", y.tankIs(0, 2), 110);
    }

    /** fire: their HEAD by their LEVEL now. */
    static void aFireAtTheHeightOfTheHead() {
        UtilityWorks x = Edges.quiet();
        x.height(2, 50);
        Edges.due("as high as the head", x.fire(2, 1), 1);
        Edges.due("higher now", x.fire(2, 1), 0);
        x.height(2, 49);
        Edges.due("it is the head as it begins", x.fire(2, 40), 40);
        x.turn(1, 2, false);
        x.height(2, 0);
        Edges.due("no way", x.fire(2, 1), 0);
        Edges.due("its own crossing", x.fire(3, 1), 1);
    }

    /** fire: by turns as told: the nearer TANK, of several the first. */
    static void aFireByTurns() {
        UtilityWorks x = twoTanks();
        Edges.due("fire", x.fire(0, 3), 3);
        Edges.due("the first one", x.tankIs(1, 2) * 100 + x.tankIs(2, 2), 3740);
        Edges.due("fire", x.fire(0, 50), 50);
        Edges.due("then the other one", x.tankIs(1, 2) * 100 + x.tankIs(2, 2), 27);
        Edges.due("fire", x.fire(5, 500), 27);
        Edges.due("both are empty", x.fire(4, 500), 0);
    }

    /** waterWithout: as bits; none, if it is OFF; a HOLE that is OFF is none. */
    static void whoWouldGetLess() {
        UtilityWorks x = new UtilityWorks();
        x.reserve(0, 150);
        Edges.due("those for whom the other well has too little", x.waterWithout(13), (1 << 3) + (1 << 4) + (1 << 9));
        x.pump(1, false);
        Edges.due("all behind it", x.waterWithout(13), (1 << 1) + (1 << 3) + (1 << 4) + (1 << 5) + (1 << 9));
        x.turn(1, 13, false);
        Edges.due("off", x.waterWithout(13), 0);
        Edges.due("it stays off", x.linkIs(1, 13, 3), 0);
        x.turn(1, 13, true);
        x.breaks(1, 13);
        Edges.due("a hole gets less", x.waterWithout(13), 1 << 8);
        x.turn(1, 13, false);
        Edges.due("off it is none", x.waterWithout(13), 0);
    }

    /** waterAnew: what comes, less what goes, and what a TANK there is filled by. */
    static void whatIsGotFoundAnew() {
        UtilityWorks x = new UtilityWorks();
        int[] gets = {0, 10, 0, 3, 5, 8, 0, 0, 0, 3, 0, 0};
        for (int c = 0; c < 12; c++) {
            Edges.due("at first, " + c, x.waterAnew(c), gets[c]);
        }
        x.connect(1, 1, false);
        Edges.due("one customer less", x.waterAnew(1), 6);
        x.light(0, false);
        Edges.due("no boiler", x.waterAnew(1), 0);
        x.breaks(1, 9);
        Edges.due("a hole at a crossing that is cut off from 0", x.waterAnew(4), 25);
        x.turn(1, 13, false);
        Edges.due("nothing comes", x.waterAnew(4), 0);
        x.pump(1, false);
        x.reserve(0, 143);
        Edges.due("the tank's own first", x.waterAnew(3), 3);
        Edges.due("then the nearer one", x.waterAnew(5), 4);
        Edges.due("nothing is left", x.waterAnew(9), 0);
    }

    /** The same, where the first CROSSING and the last one get less. */
    static void whoWouldGetLessAtTheEnds() {
        UtilityWorks x = Edges.quiet();
        Edges.customer(x, 0, 0, 1, 5);
        Edges.due("at 0", x.waterWithout(0), 1);
        Edges.layUnder(x, 1, 12, 40);
        Edges.layUnder(x, 1, 16, 40);
        Edges.customer(x, 11, 0, 1, 5);
        Edges.due("at 11", x.waterWithout(16), 1 << 11);
    }

    /** isSoundWater asked alone, behind a change. */
    static void soundBehindAChange() {
        UtilityWorks x = new UtilityWorks();
        Edges.due("goes along", x.pipeIs(0, 2), 35);
        x.bound(1, 0, 1);
        Edges.due("sound", x.isSoundWater(), true);
        x.bound(1, 0, 40);
        Edges.due("goes along", x.mainIs(10, 0), 9);
        x.bound(2, 10, 1);
        Edges.due("sound", x.isSoundHeat(), true);
    }

    /** waterSum: since the beginning; the LEVELS now. */
    static void sumsFromTheBeginning() {
        UtilityWorks x = new UtilityWorks();
        for (int what = 0; what < 6; what++) {
            Edges.due("sum " + what, x.waterSum(what), 0);
        }
        Edges.due("levels", x.waterSum(6), 150);
        x.tank(0, 9, 9);
        Edges.due("a new tank is empty", x.tankIs(1, 2), 0);
        Edges.due("levels", x.waterSum(6), 150);
        Edges.due("sound", x.isSoundWater(), true);
    }

    /** The LEAK of a PIPE that does not LEAD takes nothing of what its CROSSING GETS. */
    static void aLeakOfAPipeThatDoesNotLead() {
        UtilityWorks x = Edges.quiet();
        Edges.layUnder(x, 1, 11, 40);
        x.leak(11, 9);
        int customer = Edges.customer(x, 2, 0, 1, 5);
        Edges.due("it leads", x.waterAt(2, 0) * 1000 + x.waterAt(2, 2) * 10 + x.waterAt(2, 4), 14095);
        x.turn(1, 11, false);
        for (int broken = 0; broken < 2; broken++) {
            Edges.due("wants", x.waterAt(2, 0), 5);
            Edges.due("gets", x.waterAt(2, 1), 5);
            Edges.due("runs out", x.waterAt(2, 2), 0);
            Edges.due("to the customer", x.waterAt(2, 4), 5);
            Edges.due("content", x.content(), 7);
            x.breaks(1, 11);
        }
        x.pass(1);
        Edges.due("got", x.customerIs(customer, 7), 5);
        Edges.due("leaks took", x.waterSum(3), 0);
    }

    /** fire: for this CROSSING alone, not for one ahead of it that lacked some. */
    static void aFireForItsCrossingAlone() {
        UtilityWorks x = Edges.quiet();
        x.bound(1, 2, 5);
        Edges.due("as the pipe has room", x.fire(2, 20), 5);
        Edges.due("another one", x.fire(3, 1), 1);
        Edges.due("level", x.tankIs(0, 2), 144);
        Edges.due("fires", x.waterSum(5), 6);
        Edges.due("with the room anew", x.fire(2, 20), 5);
        x.connect(2, 1, true);
        Edges.due("a fire leaves the room of the day", x.pipeIs(2, 4), 5);
        Edges.due("level", x.tankIs(0, 2), 139);
        Edges.due("sound", x.isSoundWater(), true);
    }

    /** A WELL ahead of another one by its number, whatever they yield. */
    static void theFirstSourceThoughItHasLess() {
        UtilityWorks x = Edges.quiet();
        x.turn(1, 2, false);
        x.pump(1, true);
        x.well(0, 99, 50);
        Edges.customer(x, 1, 0, 1, 20);
        Edges.customer(x, 1, 0, 1, 7);
        Edges.due("all of the well 1, the rest of the well 2", x.wellIs(1, 5) * 100 + x.wellIs(2, 5), 2007);
    }

    /** breaks and a JOB to MEND leave the LEAK and the STRAIN of a PIPE, and whether it is ON. */
    static void brokenAndMendedWithItsLeakAndStrain() {
        UtilityWorks x = new UtilityWorks();
        x.weather(-20, 0, 0);
        x.leak(0, 7);
        x.turn(1, 0, false);
        x.pass(2);
        Edges.due("strain", x.pipeIs(0, 1), 40);
        x.breaks(1, 0);
        Edges.due("broken", x.pipeIs(0, 0) * 100 + x.pipeIs(0, 1), 740);
        x.weather(0, 0, 0);
        Edges.dig(x, 0);
        x.job(2, 1, 0, 9);
        x.pass(2);
        Edges.due("mended", x.linkIs(1, 0, 2) * 10 + x.linkIs(1, 0, 3), 10);
        Edges.due("the strain of the day on which it is sound", x.pipeIs(0, 0) * 100 + x.pipeIs(0, 1), 735);
        Edges.due("bound", x.linkIs(1, 0, 1), 40);
    }

    public static void main(String[] args) {
        Edges.runAll(WaterEdgesTest.class);
    }
}
