/** The edges that the document names of POWER: promises 8 to 10. */
public final class PowerEdgesTest {
    /** A quiet town with a PLANT at the CROSSING 5 alone, and one CUSTOMER there who NEEDS so much. */
    private static UtilityWorks one(int capacity, int need) {
        UtilityWorks x = Edges.quiet();
        x.start(0, false);
        x.start(1, false);
        x.plant(5, capacity);
        x.need(0, 0, need);
        x.connect(0, 0, true);
        return x;
    }

    /** Each gets all that it NEEDS, if there is so much yet; otherwise it gets nothing, and is SHED. */
    static void allOrNothing() {
        UtilityWorks x = one(10, 10);
        Edges.due("just enough", x.powerAt(5, 1), 10);
        Edges.due("shed", x.shed(2), 0);
        Edges.due("gives", x.plantIs(2, 3), 10);
        x.need(0, 0, 11);
        Edges.due("one too much", x.powerAt(5, 1), 0);
        Edges.due("needs", x.powerAt(5, 0), 11);
        Edges.due("shed", x.shed(2), 1);
        Edges.due("gives", x.plantIs(2, 3), 0);
    }

    /** The same: what one was not given goes to those behind it, as far as it goes. */
    static void smallerOnesBehindAreFed() {
        UtilityWorks x = one(10, 11);
        Edges.customer(x, 5, 1, 0, 4);
        Edges.customer(x, 5, 2, 0, 7);
        Edges.customer(x, 5, 3, 0, 6);
        Edges.customer(x, 5, 4, 0, 1);
        Edges.due("gets", x.powerAt(5, 1), 10);
        Edges.due("shed", x.shed(2), 1 + (1 << 7) + (1 << 9));
    }

    /** To the WELLS by numbers, the BOILERS by numbers, the CUSTOMERS. */
    static void wellsThenBoilersThenCustomers() {
        UtilityWorks x = one(1, 1);
        x.well(0, 10, 0);
        x.pump(0, true);
        x.pump(1, true);
        x.boiler(2, 10);
        x.light(0, true);
        x.light(1, true);
        // the WELL 0 needs 5, the WELL 1 needs 2, the WELL 2 needs 1, the BOILERS 5 each, the CUSTOMER 1
        feed(x, 5, 6, 3, 1);
        feed(x, 6, 2, 3, 1);
        feed(x, 7, 4, 3, 1);
        feed(x, 8, 0, 3, 1);
        feed(x, 9, 0, 3, 0);
        feed(x, 13, 0, 2, 1);
        feed(x, 14, 0, 2, 0);
        feed(x, 18, 0, 0, 1);
        feed(x, 19, 0, 0, 0);
        feed(x, 1, 3, 3, 1);
    }

    /** Gives the island another CAPACITY, by an image of the town without the PLANT. */
    private static void feed(UtilityWorks x, int capacity, int wells, int boilers, int customers) {
        x.start(2, false);
        x.keep(0);
        x.plant(6, capacity);
        Edges.due("wells shed of " + capacity, x.shed(0), wells);
        Edges.due("boilers shed of " + capacity, x.shed(1), boilers);
        Edges.due("customers shed of " + capacity, x.shed(2), customers);
        x.bring(0);
    }

    /** CUSTOMERS by RANKS, the lower ones first, of like RANK by numbers. */
    static void customersByRanks() {
        UtilityWorks x = one(1, 0);
        Edges.customer(x, 5, 9, 0, 1);
        Edges.customer(x, 5, 4, 0, 1);
        Edges.customer(x, 5, 4, 0, 1);
        Edges.customer(x, 5, 5, 0, 1);
        Edges.due("the lowest rank, the lowest number", x.shed(2), (1 << 6) + (1 << 8) + (1 << 9));
        x.need(0, 0, 1);
        Edges.due("the rank 0", x.shed(2), (1 << 6) + (1 << 7) + (1 << 8) + (1 << 9));
        x.connect(0, 0, false);
        x.connect(7, 0, false);
        Edges.due("the next number", x.shed(2), (1 << 6) + (1 << 9));
        x.need(8, 0, 0);
        Edges.due("the next rank", x.shed(2), 1 << 6);
        x.need(9, 0, 2);
        Edges.due("what it can't have", x.shed(2), 1 << 9);
    }

    /** A WELL NEEDS a tenth of its YIELD, rounded up, while it is on; a BOILER 5, while it is lit. */
    static void needsOfWellsAndBoilers() {
        int[][] yields = {{1, 1}, {9, 1}, {10, 1}, {11, 2}, {20, 2}, {21, 3}, {90, 9}, {91, 10}, {99, 10}};
        for (int[] y : yields) {
            UtilityWorks x = Edges.quiet();
            x.well(6, y[0], 0);
            Edges.due("a well of " + y[0], x.powerAt(6, 0), y[1]);
            Edges.due("it gets that", x.powerAt(6, 1), y[1]);
            x.pump(2, false);
            Edges.due("off", x.powerAt(6, 0), 0);
            Edges.due("not shed", x.shed(0), 0);
        }
        for (int capacity : new int[] {10, 300}) {
            UtilityWorks x = Edges.quiet();
            x.boiler(6, capacity);
            Edges.due("not lit", x.powerAt(6, 0), 0);
            x.light(1, true);
            Edges.due("lit", x.powerAt(6, 0), 5);
        }
    }

    /** USERS are those who are CONNECTED to POWER and NEED some of it: others are not SHED, nor is it DARK for them. */
    static void whoNeedsNoneIsNotShed() {
        UtilityWorks x = Edges.quiet();
        x.start(0, false);
        x.start(1, false);
        x.connect(0, 0, true);
        x.need(0, 0, 0);
        x.need(1, 0, 9);
        x.connect(2, 1, true);
        Edges.due("shed", x.shed(2), 0);
        x.pass(1);
        Edges.due("dark", x.powerSum(5), 0);
        x.need(0, 0, 1);
        Edges.due("one who needs 1", x.shed(2), 1);
        x.pass(2);
        Edges.due("dark", x.dark(0), 2);
        Edges.due("of the others", x.dark(1) + x.dark(2), 0);
        x.start(0, true);
        x.pass(1);
        Edges.due("fed again", x.dark(0), 2);
        Edges.due("dark for all", x.powerSum(5), 2);
        Edges.due("as the report tells", x.report(2), 2);
    }

    /** The PLANTS of the ISLAND give all that, by numbers: each as much as is to be given yet, at most its CAPACITY. */
    static void plantsGiveByNumbers() {
        UtilityWorks x = Edges.quiet();
        x.bound(0, 10, 999);
        x.plant(6, 3);
        gives(x, 0, 0, 0);
        Edges.customer(x, 5, 0, 0, 20);
        Edges.customer(x, 5, 0, 0, 20);
        gives(x, 40, 0, 0);
        int third = Edges.customer(x, 5, 0, 0, 1);
        gives(x, 40, 1, 0);
        int fourth = Edges.customer(x, 5, 0, 0, 20);
        x.need(third, 0, 10);
        gives(x, 40, 30, 0);
        x.need(third, 0, 13);
        gives(x, 40, 30, 3);
        x.need(third, 0, 14);
        Edges.due("the last one is shed", x.shed(2), 1 << fourth);
        gives(x, 40, 14, 0);
        x.need(third, 0, 13);
        x.start(0, false);
        gives(x, 0, 30, 3);
        Edges.due("capacity of those that are up", x.powerAt(9, 3), 33);
        Edges.due("what all need", x.powerAt(9, 4), 73);
        x.start(1, false);
        x.start(2, false);
        gives(x, 0, 0, 0);
        Edges.due("capacity of none", x.powerAt(9, 3), 0);
    }

    private static void gives(UtilityWorks x, int... due) {
        for (int plant = 0; plant < due.length; plant++) {
            Edges.due("plant " + plant + " gives", x.plantIs(plant, 3), due[plant]);
        }
    }

    /** An ISLAND is told by its lowest CROSSING. */
    static void islandsByTheirLowestCrossing() {
        UtilityWorks x = new UtilityWorks();
        for (int c = 0; c < 12; c++) {
            Edges.due("one island", x.powerAt(c, 2), 0);
        }
        x.turn(0, 0, false);
        int[] halves = {0, 1, 1, 1, 0, 1, 1, 1, 0, 1, 1, 1};
        for (int c = 0; c < 12; c++) {
            Edges.due("two islands, of " + c, x.powerAt(c, 2), halves[c]);
        }
        Edges.due("capacity of the first", x.powerAt(8, 3), 40);
        Edges.due("needs of the first", x.powerAt(8, 4), 8 + 5);
        Edges.due("capacity of the other", x.powerAt(10, 3), 30);
        Edges.due("needs of the other", x.powerAt(10, 4), 54 - 13);
        for (int s = 0; s < 17; s++) {
            int street = s;
            Edges.told(() -> x.turn(0, street, false));
        }
        for (int c = 0; c < 12; c++) {
            Edges.due("each for itself", x.powerAt(c, 2), c);
        }
    }

    /** flowAnew asked alone, behind a change. */
    static void flowsAreFoundAnew() {
        UtilityWorks x = Edges.quiet();
        x.start(1, false);
        x.connect(0, 0, true);
        Edges.due("anew", x.flowAnew(10), 12);
        x.need(0, 0, 7);
        Edges.due("anew", x.flowAnew(0), 7);
        x.bound(0, 0, 6);
        Edges.due("sound", x.isSoundPower(), true);
        Edges.due("behind all trips", x.flowAnew(10), 0);
    }

    /** USERS at the CROSSING 0 and at the CROSSING 11 count as all others. */
    static void usersAtTheFirstAndTheLastCrossing() {
        UtilityWorks x = Edges.quiet();
        Edges.customer(x, 0, 0, 0, 5);
        Edges.customer(x, 11, 0, 0, 6);
        Edges.due("needs", x.powerAt(0, 0) * 10 + x.powerAt(11, 0), 56);
        Edges.due("gets", x.powerAt(0, 1) * 10 + x.powerAt(11, 1), 56);
        Edges.due("all need", x.powerAt(3, 4), 11);
        Edges.due("gives", x.plantIs(0, 3) * 10 + x.plantIs(1, 3), 110);
        Edges.due("to the last one", x.lineIs(16, 0), 6);
        x.turn(0, 16, false);
        Edges.due("each its own", x.plantIs(0, 3) * 10 + x.plantIs(1, 3), 56);
        x.start(0, false);
        Edges.due("shed", x.shed(2), 1 << 6);
    }

    /** A quiet town in which 12 go from the PLANT 0 by the STREETS 0 and 10 to the CUSTOMER 0. */
    private static UtilityWorks line() {
        UtilityWorks x = Edges.quiet();
        x.start(1, false);
        x.connect(0, 0, true);
        Edges.due("flow", x.lineIs(0, 0), 12);
        Edges.due("flow", x.lineIs(10, 0), 12);
        return x;
    }

    /** FLOW: from its lower CROSSING to the other one, below 0 if it goes the other way; 0 on others. */
    static void flowsToTheLowerCrossingAreBelow0() {
        UtilityWorks x = Edges.quiet();
        x.start(0, false);
        x.connect(0, 0, true);
        int[][] flows = {{16, -12}, {12, -12}, {2, -12}, {1, -12}, {10, 12}, {0, 0}, {9, 0}, {11, 0}, {14, 0}};
        for (int[] f : flows) {
            Edges.due("flow of " + f[0], x.lineIs(f[0], 0), f[1]);
            Edges.due("flow anew of " + f[0], x.flowAnew(f[0]), f[1]);
        }
        x.lay(0, 3, 50);
        Edges.due("one that is off", x.lineIs(3, 0), 0);
        Edges.due("one that is off, anew", x.flowAnew(3), 0);
        x.breaks(0, 10);
        Edges.due("one that is broken", x.lineIs(10, 0), 0);
        Edges.due("one that is broken, anew", x.flowAnew(10), 0);
    }

    /** While some LINE has more FLOW than its BOUND, one TRIPS: not at its BOUND. */
    static void aLineTripsAboveItsBound() {
        UtilityWorks x = line();
        x.bound(0, 10, 12);
        Edges.due("at its bound", x.lineIs(10, 1), 1);
        Edges.due("sound at its bound", x.isSoundPower(), true);
        x.pass(1);
        Edges.due("no trip", x.powerSum(4), 0);
        x.bound(0, 10, 11);
        Edges.due("above it", x.lineIs(10, 1), 0);
        Edges.due("shed", x.shed(2), 1);
        x.pass(1);
        Edges.due("a trip", x.powerSum(4), 1);
        UtilityWorks y = Edges.quiet();
        y.start(0, false);
        y.connect(0, 0, true);
        y.bound(0, 16, 12);
        Edges.due("the other way, at its bound", y.lineIs(16, 1), 1);
        y.bound(0, 16, 11);
        Edges.due("the other way, above it", y.lineIs(16, 1), 0);
    }

    /** The one that has most above its BOUND TRIPS, of several the lowest; then all is dealt anew. */
    static void theWorstLineTrips() {
        UtilityWorks x = line();
        x.bound(0, 0, 10);
        x.bound(0, 10, 9);
        Edges.due("the worse one", x.lineIs(0, 1) * 10 + x.lineIs(10, 1), 10);
        x.bound(0, 0, 9);
        Edges.due("of two alike the lower one", x.lineIs(0, 1) * 10 + x.lineIs(10, 1), 1);
        x.bound(0, 10, 1);
        x.bound(0, 0, 2);
        Edges.due("most above, not the least bound", x.lineIs(0, 1) * 10 + x.lineIs(10, 1), 10);
        x.pass(1);
        Edges.due("one trip is enough", x.powerSum(4), 1);
    }

    /** The same: one behind the other, as long as some have to. */
    static void tripBehindTrip() {
        UtilityWorks x = new UtilityWorks();
        x.bound(0, 9, 10);
        Edges.due("one has to", x.lineIs(9, 1), 0);
        Edges.due("the others lead", x.lineIs(0, 1), 1);
        x.bound(0, 0, 39);
        x.bound(0, 16, 9);
        Edges.due("then another one", x.lineIs(16, 1), 0);
        x.bound(0, 0, 38);
        x.pass(1);
        Edges.due("trips", x.powerSum(4), x.lineIs(9, 2) + x.lineIs(0, 2) + x.lineIs(16, 2));
        Edges.due("sound", x.isSoundPower(), true);
    }

    /** TRIPPED until it is turned ON; the LINES TRIP only as a DAY goes by. */
    static void trippedUntilItIsTurnedOn() {
        UtilityWorks x = line();
        x.bound(0, 10, 11);
        Edges.due("not yet tripped", x.lineIs(10, 2), 0);
        Edges.due("on yet", x.linkIs(0, 10, 3), 1);
        Edges.due("joined yet", x.joined(0, 1, 5), true);
        Edges.due("though told behind all trips", x.powerAt(5, 2), 5);
        x.pass(1);
        Edges.due("tripped", x.lineIs(10, 2), 1);
        Edges.due("off", x.linkIs(0, 10, 3), 0);
        Edges.due("turned off it stays tripped", x.turn(0, 10, false), false);
        Edges.due("tripped", x.lineIs(10, 2), 1);
        x.bound(0, 10, 60);
        x.pass(1);
        Edges.due("tripped though it could bear it now", x.lineIs(10, 2), 1);
        Edges.due("turned on", x.turn(0, 10, true), false);
        Edges.due("tripped no more", x.lineIs(10, 2), 0);
        x.bound(0, 10, 11);
        x.pass(1);
        Edges.due("tripped again", x.powerSum(4), 2);
        Edges.due("dark", x.dark(0), 3);
    }

    /** lineIs 3: whether it would close a ring, were it SOUND and ON; 0 if it LEADS. */
    static void aLineThatWouldCloseARing() {
        UtilityWorks x = new UtilityWorks();
        x.lay(0, 3, 40);
        Edges.due("off", x.lineIs(3, 3), 1);
        x.breaks(0, 3);
        Edges.due("broken", x.lineIs(3, 3), 1);
        Edges.due("one that leads", x.lineIs(10, 3), 0);
        x.breaks(0, 10);
        Edges.due("the ring is open", x.lineIs(3, 3), 0);
        Edges.due("so it is for the other", x.lineIs(10, 3), 0);
    }

    /** A SWITCHING of no LINES, if none is SOUND and OFF. */
    static void noLineToSwitch() {
        UtilityWorks x = new UtilityWorks();
        Edges.due("set", x.switching(1), 0);
        Edges.due("worth", x.switching(0), 42);
        x.breaks(0, 10);
        Edges.due("a broken one is none", x.switching(1), 0);
        Edges.due("worth", x.switching(0), 42 - 12 - 4);
        x.turn(0, 10, false);
        Edges.due("nor one that is off, too", x.switching(1), 0);
    }

    /** Of the first five of these by STREETS. */
    static void theFirstFiveLines() {
        UtilityWorks x = new UtilityWorks();
        for (int s : new int[] {0, 1, 2, 9, 10}) {
            x.turn(0, s, false);
        }
        int set = x.switching(1);
        Edges.due("the fifth of five", set >> 10 & 1, 1);
        Edges.due("worth", x.switching(0), 42);
        UtilityWorks y = Edges.quiet();
        y.start(0, false);
        y.connect(5, 0, true);
        y.turn(0, 16, false);
        for (int s = 3; s < 7; s++) {
            y.lay(0, s, 5);
        }
        Edges.due("the fifth, behind four that close rings", y.switching(1), 1 << 16);
        Edges.due("worth", y.switching(0), 7);
        y.lay(0, 7, 5);
        Edges.due("the sixth is none of them", y.switching(1), 0);
        Edges.due("worth", y.switching(0), 0);
    }

    /** By which, were they ON, no ring is closed. */
    static void aSwitchingClosesNoRing() {
        UtilityWorks x = Edges.quiet();
        x.start(1, false);
        x.connect(3, 0, true);
        x.turn(0, 9, false);
        x.lay(0, 3, 5);
        x.turn(0, 3, true);
        Edges.due("8 are too much for the way round", x.shed(2), 1 << 3);
        Edges.due("the shorter way would close a ring", x.switching(1), 0);
        Edges.due("worth", x.switching(0), 0);
        x.turn(0, 3, false);
        Edges.due("now it closes none", x.switching(1), 1 << 9);
        Edges.due("worth", x.switching(0), 8);
        Edges.due("nothing changes", x.linkIs(0, 3, 3) + x.linkIs(0, 9, 3), 0);
    }

    /** Its WORTH is what all CUSTOMERS would get, behind all TRIPS; of several the fewest LINES, then the least set. */
    static void theBestSwitching() {
        UtilityWorks x = line();
        x.turn(0, 10, false);
        x.lay(0, 3, 60);
        Edges.due("either would do: the least set", x.switching(1), 1 << 3);
        Edges.due("worth", x.switching(0), 12);
        x.bound(0, 3, 11);
        Edges.due("it would trip", x.switching(1), 1 << 10);
        x.bound(0, 10, 11);
        Edges.due("both would", x.switching(1), 0);
        Edges.due("worth", x.switching(0), 0);
        x.bound(0, 10, 12);
        x.turn(0, 0, false);
        Edges.due("both are needed now", x.switching(1), 1 + (1 << 10));
        x.bound(0, 3, 12);
        Edges.due("the fewest lines", x.switching(1), 1 << 3);
        UtilityWorks y = line();
        y.turn(0, 0, false);
        y.turn(0, 10, false);
        y.turn(0, 16, false);
        Edges.due("two that help, not one that does not", y.switching(1), 1 + (1 << 10));
        Edges.due("worth", y.switching(0), 12);
    }

    /** A LINE that is TRIPPED is SOUND and OFF, too. */
    static void aTrippedLineCanBeSwitched() {
        UtilityWorks x = line();
        x.bound(0, 10, 11);
        x.pass(1);
        Edges.due("it would trip again", x.switching(1), 0);
        x.bound(0, 10, 12);
        Edges.due("now it bears it", x.switching(1), 1 << 10);
        Edges.due("it is tripped still", x.lineIs(10, 2), 1);
    }

    /** powerSum: since the beginning; nothing at first. */
    static void sumsFromTheBeginning() {
        UtilityWorks x = new UtilityWorks();
        for (int what = 0; what < 6; what++) {
            Edges.due("sum " + what, x.powerSum(what), 0);
        }
        Edges.due("dark", x.dark(0) + x.dark(5), 0);
        x.pass(1);
        long[] sums = {54, 7, 5, 42, 0, 0};
        for (int what = 0; what < 6; what++) {
            Edges.due("sum " + what, x.powerSum(what), sums[what]);
        }
        x.pump(1, false);
        x.light(0, false);
        x.pass(2);
        sums = new long[] {148, 17, 5, 126, 0, 0};
        for (int what = 0; what < 6; what++) {
            Edges.due("sum " + what, x.powerSum(what), sums[what]);
        }
    }

    /** The FLOW is below 0, if it goes from the upper CROSSING: also where that is further from the PLANT by others. */
    static void theFlowOnALineThatLeadsBack() {
        UtilityWorks x = Edges.quiet();
        x.start(1, false);
        x.turn(0, 0, false);
        x.lay(0, 3, 60);
        x.turn(0, 3, true);
        x.connect(1, 0, true);
        x.connect(2, 0, true);
        int[][] flows = {{0, 0}, {9, 11}, {3, 11}, {10, -11}, {1, 5}, {2, 5}, {11, 0}, {14, 0}};
        for (int[] r : flows) {
            Edges.due("flow on " + r[0], x.lineIs(r[0], 0), r[1]);
            Edges.due("found anew on " + r[0], x.flowAnew(r[0]), r[1]);
        }
        Edges.due("sound", x.isSoundPower(), true);
    }

    /** linkIs and joined tell of the LINES as they are now; lineIs 1 and powerAt of them behind all TRIPS. */
    static void whatWouldTripLeadsNow() {
        UtilityWorks x = new UtilityWorks();
        x.bound(0, 0, 26);
        Edges.due("it leads now", x.linkIs(0, 0, 4), 1);
        Edges.due("on now", x.linkIs(0, 0, 3), 1);
        Edges.due("joined now", x.joined(0, 0, 1), true);
        Edges.due("not behind all trips", x.lineIs(0, 1), 0);
        Edges.due("another island then", x.powerAt(1, 2), 1);
        x.pass(1);
        Edges.due("it does not lead any more", x.linkIs(0, 0, 4) * 10 + x.linkIs(0, 0, 3), 0);
        Edges.due("nor is joined", x.joined(0, 0, 1), false);
    }

    /** TRIPPED until it is turned ON: not by being turned OFF, nor broken, nor mended. */
    static void trippedThoughBrokenAndMended() {
        UtilityWorks x = new UtilityWorks();
        x.bound(0, 0, 26);
        x.pass(1);
        Edges.due("tripped", x.lineIs(0, 2), 1);
        x.turn(0, 0, false);
        Edges.due("turned off", x.lineIs(0, 2), 1);
        x.breaks(0, 0);
        Edges.due("broken", x.lineIs(0, 2), 1);
        x.job(2, 0, 0, 9);
        x.pass(2);
        Edges.due("mended", x.linkIs(0, 0, 2) * 100 + x.linkIs(0, 0, 3) * 10 + x.lineIs(0, 2), 101);
        x.breaks(0, 0);
        x.turn(0, 0, true);
        Edges.due("turned on though broken", x.lineIs(0, 2), 0);
        x.turn(0, 0, false);
        Edges.due("off by hand is not tripped", x.lineIs(0, 2), 0);
    }

    /** SWITCHING: of the first five that are SOUND and OFF; one that is BROKEN is none of these. */
    static void aBrokenLineIsNoneOfTheFive() {
        UtilityWorks x = Edges.quiet();
        x.start(0, false);
        x.connect(4, 0, true);
        x.plant(5, 20);
        for (int s : new int[] {0, 1, 2, 9, 11, 14}) {
            x.turn(0, s, false);
        }
        Edges.due("it is the sixth", x.switching(1), 0);
        x.breaks(0, 0);
        Edges.due("one ahead of it is broken", x.switching(1), 1 << 14);
        Edges.due("worth", x.switching(0), 4);
        x.turn(0, 1, true);
        Edges.due("one ahead of it is on", x.switching(1), 1 << 14);
    }

    public static void main(String[] args) {
        Edges.runAll(PowerEdgesTest.class);
    }
}
