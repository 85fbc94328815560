/** The edges that the document names of HEAT: promises 14 to 17. */
public final class HeatEdgesTest {
    /** A quiet town whose BOILER 0, at the CROSSING 1, is lit, on a DAY with a COLD of 10. */
    private static UtilityWorks warm() {
        UtilityWorks x = Edges.quiet();
        x.light(0, true);
        x.weather(8, 0, 0);
        return x;
    }

    /** The same, and the BOILER 1 at the CROSSING 3, where the TANK is, with so much FUEL. */
    private static UtilityWorks second(int capacity, int fuel) {
        UtilityWorks x = warm();
        x.light(0, false);
        x.boiler(3, capacity);
        x.coal(1, fuel);
        x.light(1, true);
        return x;
    }

    /** While it is lit, it NEEDS 5 of POWER, and a tenth of its CAPACITY, rounded up, of WATER. */
    static void needsATenthOfItsCapacity() {
        int[][] rows = {{10, 1}, {11, 2}, {19, 2}, {20, 2}, {21, 3}, {299, 30}, {300, 30}};
        for (int[] r : rows) {
            UtilityWorks x = Edges.quiet();
            x.boiler(3, r[0]);
            Edges.due("not lit", x.waterAt(3, 0) * 100 + x.powerAt(3, 0), 0);
            x.light(1, true);
            Edges.due("of " + r[0], x.waterAt(3, 0) * 100 + x.powerAt(3, 0), r[1] * 100 + 5);
            Edges.due("it gets that", x.waterAt(3, 3), r[1]);
        }
    }

    /** The first that it lacks to BURN: 1 it is not lit, 2 POWER, 3 WATER, 4 FUEL, 0 nothing. */
    static void theFirstThatItLacks() {
        UtilityWorks x = Edges.quiet();
        x.boiler(3, 50);
        x.start(0, false);
        x.start(1, false);
        x.reserve(0, 150);
        lacks(x, 1);
        x.light(1, true);
        lacks(x, 2);
        x.plant(3, 4);
        lacks(x, 2);
        x.plant(2, 1);
        lacks(x, 3);
        x.reserve(0, 146);
        lacks(x, 3);
        x.reserve(0, 145);
        lacks(x, 4);
        x.coal(1, 1);
        lacks(x, 0);
        x.light(1, false);
        lacks(x, 1);
    }

    private static void lacks(UtilityWorks x, int due) {
        Edges.due("lacks", x.boilerIs(1, 5), due);
        Edges.due("can make some", x.boilerIs(1, 6) > 0, due == 0);
        Edges.due("lasts", x.lasts(1), due == 0 ? 999 : 0);
    }

    /** As much HEAT as its CAPACITY, half of it, if it did not BURN on the DAY ahead, but at most 10 times its FUEL. */
    static void whatItCanMake() {
        int[][] rows = {{10, 99, 5, 10}, {11, 99, 5, 11}, {61, 99, 30, 61}, {61, 3, 30, 30}, {61, 2, 20, 20},
            {300, 15, 150, 150}, {300, 14, 140, 140}, {300, 16, 150, 160}, {300, 30, 150, 300}, {10, 1, 5, 10}};
        for (int[] r : rows) {
            UtilityWorks x = second(r[0], r[1]);
            Edges.due("did not burn, of " + r[0] + " with " + r[1], x.boilerIs(1, 6), r[2]);
            Edges.due("did not burn", x.boilerIs(1, 4), 0);
            x.pass(1);
            Edges.due("burned, of " + r[0] + " with " + r[1], x.boilerIs(1, 6), r[3]);
            Edges.due("burned", x.boilerIs(1, 4), 1);
        }
        UtilityWorks y = warm();
        Edges.due("the old one counts as having burned", y.boilerIs(0, 6), 60);
    }

    /** The COLD of a DAY is 18 less the TEMPERATURE, at least 0; WANTS: the NEED times the COLD by 10. */
    static void coldAndWants() {
        int[][] rows = {{18, 0, 0, 0}, {17, 1, 0, 2}, {16, 2, 1, 4}, {40, 0, 0, 0}, {19, 0, 0, 0}, {8, 10, 9, 20},
            {-30, 48, 43, 96}, {0, 18, 16, 36}};
        UtilityWorks x = warm();
        x.need(0, 2, 10);
        x.need(1, 2, 9);
        x.need(3, 2, 20);
        for (int k : new int[] {0, 1, 3}) {
            x.connect(k, 2, true);
        }
        for (int[] r : rows) {
            x.weather(r[0], 0, 0);
            Edges.due("10 at " + r[0], x.heatAt(5, 0), r[1]);
            Edges.due("9 at " + r[0], x.heatAt(1, 0), r[2]);
            Edges.due("20 at " + r[0], x.heatAt(4, 0), r[3]);
        }
        x.connect(3, 2, false);
        Edges.due("not connected", x.heatAt(4, 0), 0);
    }

    /** What a CROSSING GETS goes to its CUSTOMERS by their RANKS, of like RANK by numbers. */
    static void heatByRanks() {
        UtilityWorks x = second(20, 1);
        x.connect(2, 2, true);
        x.need(2, 2, 5);
        Edges.customer(x, 3, 6, 2, 2);
        Edges.customer(x, 3, 4, 2, 3);
        Edges.customer(x, 3, 4, 2, 4);
        Edges.due("wants", x.heatAt(3, 0), 14);
        Edges.due("gets", x.heatAt(3, 1), 10);
        Edges.due("less than wanted", x.heatAt(3, 2), 2);
        x.pass(1);
        Edges.due("the ranks 4, of the lower number", x.customerIs(7, 8), 3);
        Edges.due("the rank 4", x.customerIs(8, 8), 4);
        Edges.due("the rank 5", x.customerIs(2, 8), 3);
        Edges.due("the rank 6", x.customerIs(6, 8), 0);
        Edges.due("dry", x.customerIs(6, 11) * 10 + x.customerIs(2, 11), 10);
    }

    /** heatAt 2: who WANTS nothing does not get less than wanted. */
    static void whoWantsNothingGetsNotLess() {
        UtilityWorks x = Edges.quiet();
        x.weather(8, 0, 0);
        x.connect(0, 2, true);
        Edges.due("one", x.heatAt(5, 2), 1);
        x.need(0, 2, 0);
        Edges.due("none", x.heatAt(5, 2), 0);
        x.need(0, 2, 5);
        x.weather(17, 0, 0);
        Edges.due("5 at 17", x.heatAt(5, 2), 0);
    }

    /** A MAIN loses a tenth, rounded up, and 1 more for each 10 whole degrees below 0, but no more than it takes in. */
    static void whatAMainLoses() {
        int[][] rows = {{8, 1, 0, 0}, {8, 2, 2, 1}, {8, 10, 10, 1}, {8, 11, 11, 2}, {8, 20, 20, 2}, {8, 21, 21, 3},
            {0, 10, 10, 1}, {-9, 10, 10, 1}, {-10, 10, 10, 2}, {-19, 10, 10, 2}, {-20, 10, 10, 3}, {-29, 10, 10, 3},
            {-30, 10, 10, 4}, {-30, 5, 5, 4}, {-30, 4, 0, 0}, {-30, 3, 0, 0}, {-10, 3, 3, 2}, {-10, 2, 0, 0},
            {-30, 11, 11, 5}};
        UtilityWorks x = warm();
        x.need(0, 2, 20);
        x.connect(0, 2, true);
        for (int[] r : rows) {
            x.weather(r[0], 0, 0);
            x.bound(2, 10, r[1]);
            String at = " at " + r[0] + " of " + r[1];
            Edges.due("takes in" + at, x.mainIs(10, 0), r[2]);
            Edges.due("loses" + at, x.mainIs(10, 2), r[3]);
            Edges.due("comes out" + at, x.heatAt(5, 1), r[2] - r[3]);
            Edges.due("room" + at, x.mainIs(10, 3), r[1] - r[2]);
            Edges.due("lost" + at, x.lostAnew(), r[3]);
            Edges.due("from the other end" + at, x.mainIs(10, 1), 0);
        }
    }

    /** The BOILER sends the least by which all that the CROSSING WANTS yet comes out. */
    static void theLeastByWhichAllComesOut() {
        int[][] rows = {{1, 2}, {2, 3}, {8, 9}, {9, 10}, {10, 12}, {17, 19}, {18, 20}, {19, 22}, {20, 23}};
        UtilityWorks x = warm();
        x.connect(0, 2, true);
        for (int[] r : rows) {
            x.need(0, 2, r[0]);
            Edges.due("for " + r[0], x.mainIs(10, 0), r[1]);
            Edges.due("it gets", x.heatAt(5, 1), r[0]);
        }
        x.weather(-12, 0, 0);
        x.need(0, 2, 1);
        Edges.due("3 in the frost", x.mainIs(10, 0), 5);
        x.connect(0, 2, false);
        x.connect(3, 2, true);
        x.need(3, 2, 1);
        Edges.due("3 by two mains", x.mainIs(0, 1) * 100 + x.mainIs(9, 0), 705);
        Edges.due("it gets", x.heatAt(4, 1), 3);
    }

    /** Or, if that is not possible, the most that can be sent, whatever comes out of less. */
    static void theMostThatCanBeSent() {
        UtilityWorks x = warm();
        x.need(0, 2, 20);
        x.connect(0, 2, true);
        for (int bound = 2; bound < 23; bound++) {
            x.bound(2, 10, bound);
            Edges.due("with room for " + bound, x.mainIs(10, 0), bound);
        }
        x.bound(2, 10, 23);
        Edges.due("all comes out", x.mainIs(10, 0), 23);
        x.bound(2, 10, 999);
        Edges.due("no more than that", x.mainIs(10, 0), 23);
        x.need(3, 2, 20);
        x.connect(3, 2, true);
        int[][] rooms = {{1, 0}, {2, 302}, {3, 403}, {4, 504}, {5, 605}, {6, 706}, {7, 807}, {8, 908}, {9, 1109},
            {10, 1210}, {17, 1917}, {18, 2118}};
        for (int[] r : rooms) {
            x.bound(2, 9, r[0]);
            Edges.due("the second main has room for " + r[0], x.mainIs(0, 1) * 100 + x.mainIs(9, 0), r[1]);
        }
        x.bound(2, 9, 9);
        x.bound(2, 0, 10);
        Edges.due("the first one for 10", x.mainIs(0, 1) * 100 + x.mainIs(9, 0), 1009);
    }

    /** What a BOILER can make yet bounds what it sends; nothing is sent of which nothing comes out. */
    static void whatItCanMakeYet() {
        UtilityWorks x = warm();
        x.need(0, 2, 20);
        x.connect(0, 2, true);
        x.need(1, 2, 20);
        x.connect(1, 2, true);
        Edges.customer(x, 1, 9, 2, 20);
        Edges.due("40 at its own crossing, 20 are left", x.mainIs(10, 0), 20);
        Edges.due("made", x.boilerIs(0, 7), 60);
        Edges.customer(x, 1, 9, 2, 18);
        Edges.due("2 are left", x.mainIs(10, 0) * 10 + x.heatAt(5, 1), 21);
        x.need(7, 2, 19);
        Edges.due("1 is left", x.mainIs(10, 0) * 10 + x.heatAt(5, 1), 0);
        Edges.due("made", x.boilerIs(0, 7), 59);
        x.need(7, 2, 20);
        Edges.due("none is left", x.boilerIs(0, 7), 60);
    }

    /** Each MAIN has room for its BOUND: for what it takes in on a DAY, at both ends together. */
    static void roomForBothEnds() {
        UtilityWorks x = warm();
        Edges.layUnder(x, 2, 4, 25);
        x.boiler(4, 35);
        x.coal(1, 100);
        x.light(1, true);
        Edges.customer(x, 6, 0, 2, 13);
        Edges.customer(x, 2, 0, 2, 19);
        Edges.customer(x, 0, 0, 2, 20);
        // the BOILER 0 makes 23 for 0, 22 for 2 and 15 for 6, of which 11 come; the BOILER 1 has 17 for the 2 yet
        int[][] rows = {{30, 5, 2, 13}, {28, 5, 0, 13}, {27, 4, 0, 12}, {24, 0, 1, 11}, {23, 0, 0, 11}};
        for (int[] r : rows) {
            x.bound(2, 0, r[0]);
            Edges.due("at the lower end, of " + r[0], x.mainIs(0, 0), r[1]);
            Edges.due("at the other end, of " + r[0], x.mainIs(0, 1), 23);
            Edges.due("room, of " + r[0], x.mainIs(0, 3), r[2]);
            Edges.due("what comes, of " + r[0], x.heatAt(6, 1), r[3]);
            Edges.due("sound", x.isSoundHeat(), true);
        }
    }

    /** A WAY has the fewest MAINS, of several the first by the numbers of its CROSSINGS; without one nothing comes. */
    static void theFirstWay() {
        UtilityWorks x = warm();
        Edges.layUnder(x, 2, 3, 30);
        x.need(3, 2, 1);
        x.connect(3, 2, true);
        Edges.due("by 0", x.mainIs(0, 1) * 10 + x.mainIs(10, 0), 30);
        x.bound(2, 0, 2);
        Edges.due("the way is the same without room", x.heatAt(4, 1) * 10 + x.mainIs(10, 0), 0);
        x.turn(2, 0, false);
        Edges.due("by 5", x.mainIs(10, 0) * 10 + x.mainIs(3, 1), 32);
        x.breaks(2, 3);
        Edges.due("no way", x.heatAt(4, 1), 0);
        x.breaks(2, 10);
        Edges.due("makes none", x.boilerIs(0, 7), 0);
    }

    /** In a turn the two with the fewest MAINS, of several with the lower BOILER, then with the lower CROSSING. */
    static void theTurnWithTheFewestMains() {
        UtilityWorks x = warm();
        Edges.customer(x, 5, 0, 2, 20);
        Edges.customer(x, 2, 0, 2, 20);
        Edges.customer(x, 0, 0, 2, 20);
        Edges.due("0, then 2, then 5", x.mainIs(0, 1) * 10000 + x.mainIs(1, 0) * 100 + x.mainIs(10, 0), 232314);
        Edges.customer(x, 1, 9, 2, 20);
        Edges.due("its own ahead of all", x.heatAt(1, 1), 20);
        Edges.due("then 0, then 2", x.mainIs(0, 1) * 10000 + x.mainIs(1, 0) * 100 + x.mainIs(10, 0), 231700);
        UtilityWorks y = warm();
        y.boiler(2, 100);
        y.coal(1, 50);
        y.light(1, true);
        Edges.layUnder(y, 2, 11, 30);
        Edges.layUnder(y, 2, 4, 30);
        Edges.customer(y, 6, 0, 2, 5);
        Edges.due("the nearer boiler", y.boilerIs(0, 7) * 100 + y.boilerIs(1, 7), 6);
        y.turn(2, 11, false);
        y.turn(2, 4, false);
        y.need(6, 2, 0);
        Edges.customer(y, 0, 0, 2, 5);
        Edges.due("the nearer boiler", y.boilerIs(0, 7) * 100 + y.boilerIs(1, 7), 600);
        UtilityWorks z = warm();
        z.boiler(4, 100);
        z.coal(1, 50);
        z.light(1, true);
        Edges.customer(z, 0, 0, 2, 5);
        Edges.due("of both as near the lower one", z.boilerIs(0, 7) * 100 + z.boilerIs(1, 7), 600);
    }

    /** Each BOILER that BURNS burns a tenth of what it made, rounded up, of its FUEL. */
    static void burnsATenth() {
        int[][] rows = {{0, 0}, {1, 1}, {9, 1}, {10, 1}, {11, 2}, {20, 2}};
        for (int[] r : rows) {
            UtilityWorks x = warm();
            x.need(1, 2, r[0]);
            x.connect(1, 2, true);
            Edges.due("made", x.boilerIs(0, 7), r[0]);
            Edges.due("burns", x.boilerIs(0, 8), r[1]);
            x.pass(1);
            Edges.due("fuel", x.boilerIs(0, 2), 50 - r[1]);
            Edges.due("burned in all", x.heatSum(3), r[1]);
            Edges.due("lit still", x.boilerIs(0, 3) * 10 + x.boilerIs(0, 4), 11);
        }
    }

    /** One that is lit, but does not BURN, goes out; one that is out did not BURN. */
    static void whatDoesNotBurnGoesOut() {
        UtilityWorks x = warm();
        x.reserve(0, 145);
        x.pass(1);
        Edges.due("out", x.boilerIs(0, 3) * 10 + x.boilerIs(0, 4), 0);
        Edges.due("light", x.light(0, true), false);
        x.reserve(0, 30);
        Edges.due("it burns with half of it", x.boilerIs(0, 6), 30);
        x.pass(1);
        Edges.due("lit", x.boilerIs(0, 3) * 10 + x.boilerIs(0, 4), 11);
        Edges.due("light", x.light(0, false), true);
        Edges.due("it burned on the latest day", x.boilerIs(0, 4), 1);
        Edges.due("light", x.light(0, true), false);
        Edges.due("so it has all of it", x.boilerIs(0, 6), 60);
        x.light(0, false);
        x.pass(1);
        Edges.due("a day out", x.boilerIs(0, 4), 0);
        UtilityWorks y = second(10, 1);
        y.connect(2, 2, true);
        y.need(2, 2, 5);
        y.pass(1);
        Edges.due("the last of its fuel", y.boilerIs(1, 2) * 10 + y.boilerIs(1, 3), 1);
        y.pass(1);
        Edges.due("out without fuel", y.boilerIs(1, 3), 0);
    }

    /** WARMTH: if all that was wanted came, it is 2 more, 18 at most; otherwise less by a quarter, rounded up. */
    static void warmthDayByDay() {
        UtilityWorks x = Edges.quiet();
        x.connect(0, 2, true);
        int[][] rows = {{18, 18}, {40, 18}, {17, 17}, {17, 17}, {18, 18}, {14, 17}, {14, 16}, {12, 15}, {15, 15},
            {16, 15}, {14, 14}, {10, 13}, {5, 11}, {18, 13}, {18, 15}, {18, 17}, {18, 18}, {-30, 6}, {18, 8}};
        for (int[] r : rows) {
            x.weather(r[0], 0, 0);
            x.pass(1);
            Edges.due("behind a day of " + r[0], x.warmth(0), r[1]);
        }
        Edges.due("one who is not connected", x.warmth(1), 18);
        x.need(0, 2, 9);
        x.weather(17, 0, 0);
        x.pass(1);
        Edges.due("nothing wanted of so little cold", x.warmth(0), 10);
        x.connect(0, 2, false);
        x.weather(-30, 0, 0);
        x.pass(3);
        Edges.due("not connected any more", x.warmth(0), 10);
    }

    /** The same: one less than all that was wanted is not all. */
    static void oneLessIsNotAll() {
        UtilityWorks x = second(40, 50);
        x.need(2, 2, 20);
        x.connect(2, 2, true);
        Edges.due("all", x.heatAt(3, 1), 20);
        x.pass(1);
        Edges.due("18 at most", x.warmth(2), 18);
        x.weather(-2, 0, 0);
        x.light(1, false);
        x.light(1, true);
        Edges.due("all", x.heatAt(3, 1), 40);
        Edges.customer(x, 3, 0, 2, 1);
        Edges.due("2 less", x.heatAt(3, 1), 40);
        x.pass(1);
        Edges.due("18 less 5", x.warmth(2), 13);
        Edges.due("the other one", x.warmth(6), 18);
    }

    /** One whose WARMTH is below 8 then is CHILLED for a DAY. */
    static void chilledBelow8() {
        UtilityWorks x = Edges.quiet();
        x.connect(0, 2, true);
        x.keep(0);
        x.weather(-22, 0, 0);
        x.pass(1);
        Edges.due("8", x.warmth(0), 8);
        Edges.due("not chilled", x.heatSum(4), 0);
        x.bring(0);
        x.weather(-23, 0, 0);
        x.pass(1);
        Edges.due("7", x.warmth(0), 7);
        Edges.due("chilled", x.heatSum(4), 1);
        Edges.due("report", x.report(4), 1);
        x.weather(18, 0, 0);
        x.pass(1);
        Edges.due("9", x.warmth(0), 9);
        Edges.due("no more", x.heatSum(4), 1);
        x.weather(-30, 0, 0);
        x.pass(4);
        Edges.due("below 0", x.warmth(0) < 0, true);
        Edges.due("four more", x.heatSum(4), 5);
    }

    /** lasts: 0 if it does not BURN then; 999 if it burns none; rounded down. */
    static void howLongTheFuelLasts() {
        UtilityWorks x = warm();
        Edges.due("it burns none", x.lasts(0), 999);
        x.connect(1, 2, true);
        int[][] rows = {{1, 50}, {10, 50}, {11, 25}, {20, 25}};
        for (int[] r : rows) {
            x.need(1, 2, r[0]);
            Edges.due("with a need of " + r[0], x.lasts(0), r[1]);
        }
        x.weather(-7, 0, 0);
        Edges.due("burns 5", x.lasts(0), 10);
        x.weather(-8, 0, 0);
        Edges.due("burns 6", x.lasts(0), 8);
        x.light(0, false);
        Edges.due("not lit", x.lasts(0), 0);
        UtilityWorks y = second(60, 2);
        y.connect(2, 2, true);
        y.need(2, 2, 20);
        Edges.due("burns all", y.lasts(1), 1);
    }

    /** coal: from the STORES into a BUNKER, from 1 on. */
    static void coalByTheUnit() {
        UtilityWorks x = new UtilityWorks();
        Edges.due("coal", x.coal(0, 1), 51);
        Edges.due("stock", x.storeIs(3, 0), 199);
        Edges.due("taken", x.storeIs(3, 4), 1);
        Edges.due("coal", x.coal(0, 199), 250);
        Edges.due("stock", x.storeIs(3, 0), 0);
        Edges.due("sound", x.isSoundCrews(), true);
    }

    /** heatWithout: as bits; none of a MAIN that is OFF or BROKEN. */
    static void whoWouldGetLess() {
        UtilityWorks x = new UtilityWorks();
        Edges.due("of 0", x.heatWithout(0), 1 << 4);
        Edges.due("of 1", x.heatWithout(1), 0);
        x.turn(2, 0, false);
        Edges.due("off", x.heatWithout(0), 0);
        Edges.due("it stays off", x.linkIs(2, 0, 3), 0);
        x.breaks(2, 10);
        Edges.due("broken", x.heatWithout(10), 0);
        Edges.due("it stays on", x.linkIs(2, 10, 3), 1);
    }

    /** What comes to the CROSSING 0 counts as all other. */
    static void heatAtTheFirstCrossing() {
        UtilityWorks x = warm();
        Edges.customer(x, 0, 0, 2, 9);
        Edges.due("without the main", x.heatWithout(0), 1);
        x.pass(1);
        Edges.due("got", x.heatSum(1), 9);
        Edges.due("lost", x.heatSum(2), 1);
        Edges.due("sound", x.isSoundHeat(), true);
    }

    /** heatSum: since the beginning; nothing at first. */
    static void sumsFromTheBeginning() {
        UtilityWorks x = new UtilityWorks();
        for (int what = 0; what < 5; what++) {
            Edges.due("sum " + what, x.heatSum(what), 0);
        }
        Edges.due("lost on the next day", x.lostAnew(), 3);
        x.pass(1);
        long[] sums = {16, 13, 3, 2, 0};
        for (int what = 0; what < 5; what++) {
            Edges.due("sum " + what, x.heatSum(what), sums[what]);
        }
    }

    /** heatAt 2: how many of its CUSTOMERS get less than wanted, not of others. */
    static void lackingAtTheirOwnCrossing() {
        UtilityWorks x = Edges.quiet();
        x.weather(8, 0, 0);
        x.connect(0, 2, true);
        x.connect(1, 2, true);
        x.connect(3, 2, true);
        Edges.customer(x, 4, 0, 2, 1);
        int[] due = {0, 1, 0, 0, 2, 1, 0, 0, 0, 0, 0, 0};
        for (int c = 0; c < 12; c++) {
            Edges.due("at " + c, x.heatAt(c, 2), due[c]);
        }
    }

    /** WARMTH: less only if it is above the TEMPERATURE. */
    static void warmthBelowTheTemperature() {
        UtilityWorks x = Edges.quiet();
        x.connect(0, 2, true);
        int[][] rows = {{-30, 6}, {-30, -3}, {-30, -10}, {10, -10}, {-2, -10}, {-10, -10}, {-11, -11}, {-15, -12},
            {-12, -12}};
        for (int[] r : rows) {
            x.weather(r[0], 0, 0);
            Edges.due("it wants some", x.heatAt(5, 0) > 0, true);
            x.pass(1);
            Edges.due("behind a day of " + r[0], x.warmth(0), r[1]);
        }
        Edges.due("chilled on each", x.heatSum(4), rows.length);
    }

    /** A MAIN that does not LEAD takes nothing in, so the room for its BOUND is left. */
    static void roomOfAMainThatDoesNotLead() {
        UtilityWorks x = new UtilityWorks();
        Edges.due("of one that leads", x.mainIs(10, 0) * 100 + x.mainIs(10, 3), 921);
        x.turn(2, 10, false);
        Edges.due("off", x.mainIs(10, 0) * 100 + x.mainIs(10, 3), 30);
        x.breaks(2, 10);
        Edges.due("broken", x.mainIs(10, 0) * 100 + x.mainIs(10, 3), 30);
    }

    /** It BURNS, if it gets all the WATER that it NEEDS: what a LEAK at its CROSSING takes ahead of it is not its own. */
    static void aLeakTakesTheWaterOfTheBoiler() {
        UtilityWorks x = warm();
        x.reserve(0, 140);
        Edges.due("it lacks nothing", x.boilerIs(0, 5), 0);
        x.leak(10, 4);
        Edges.due("4 and 6 of 10", x.waterAt(1, 1) * 100 + x.waterAt(1, 3), 1006);
        Edges.due("it lacks nothing", x.boilerIs(0, 5), 0);
        x.leak(10, 5);
        Edges.due("5 and 5 of 10", x.waterAt(1, 1) * 100 + x.waterAt(1, 3), 1005);
        Edges.due("it lacks water", x.boilerIs(0, 5), 3);
        Edges.due("it makes none", x.boilerIs(0, 6), 0);
    }

    public static void main(String[] args) {
        Edges.runAll(HeatEdgesTest.class);
    }
}
