/** The edges that the document names of CUSTOMERS and METERS: promises 17 to 20. */
public final class MeterEdgesTest {
    /** A quiet town in which the CUSTOMER 0 has so much POWER a DAY. */
    private static UtilityWorks fed(int need) {
        UtilityWorks x = Edges.quiet();
        x.connect(0, 0, true);
        x.need(0, 0, need);
        return x;
    }

    /** Four WHEELS, which show 0 to 9999, 0 at first, and 0 behind 9999; TURNED counts rounds. */
    static void wheelsShow0Behind9999() {
        UtilityWorks x = fed(20);
        Edges.due("at first", x.meterIs(0, 0, 0), 0);
        Edges.passDays(x, 499);
        x.need(0, 0, 19);
        x.pass(1);
        Edges.due("shows", x.meterIs(0, 0, 0), 9999);
        Edges.due("turned", x.meterIs(0, 0, 8), 9999);
        x.need(0, 0, 1);
        x.pass(1);
        Edges.due("shows", x.meterIs(0, 0, 0), 0);
        Edges.due("turned", x.meterIs(0, 0, 8), 10000);
        x.pass(1);
        Edges.due("shows", x.meterIs(0, 0, 0), 1);
        Edges.due("sound", x.isSoundMeters(), true);
        Edges.due("nothing is lost", x.loss(0), 0);
        Edges.due("unseal tells it", x.unseal(0, 0), 1);
    }

    /** A RIGHT READING shows how far they stand behind the one ahead of it, going on. */
    static void aReadingGoesOnBehind9999() {
        UtilityWorks x = fed(20);
        Edges.passDays(x, 499);
        Edges.due("behind 0", x.read(0, 0), 9980);
        Edges.due("nothing since", x.read(0, 0), 0);
        x.pass(1);
        Edges.due("up to 0", x.read(0, 0), 20);
        Edges.due("counted", x.meterIs(0, 0, 3), 10000);
        x.pass(3);
        Edges.due("behind 0 again", x.read(0, 0), 60);
        Edges.due("counted", x.meterIs(0, 0, 3), 10060);
    }

    /** By 9999 or less: a whole round is not seen. */
    static void aWholeRoundIsNotSeen() {
        UtilityWorks x = fed(20);
        Edges.passDays(x, 500);
        x.keep(0);
        Edges.due("a whole round", x.read(0, 0), 0);
        Edges.due("counted", x.meterIs(0, 0, 3), 0);
        Edges.due("turned", x.meterIs(0, 0, 8), 10000);
        Edges.due("rate", x.meterIs(0, 0, 7), 0);
        x.bring(0);
        x.pass(1);
        Edges.due("a little more", x.read(0, 0), 20);
        Edges.due("counted", x.meterIs(0, 0, 3), 20);
    }

    /** As often as there are 100 HUNDREDTHS, the WHEELS go on by 1, and there are 100 fewer. */
    static void hundredthsBecomeOne() {
        UtilityWorks x = fed(1);
        x.unseal(0, 0);
        Edges.due("slow", x.slow(0, 0, 90), 0);
        x.pass(9);
        Edges.due("90 hundredths", x.meterIs(0, 0, 0), 0);
        x.pass(1);
        Edges.due("100", x.meterIs(0, 0, 0), 1);
        x.pass(9);
        Edges.due("90 again", x.meterIs(0, 0, 0), 1);
        Edges.due("seal", x.seal(0, 0), 90);
        x.pass(1);
        Edges.due("190", x.meterIs(0, 0, 0), 2);
        Edges.due("sound", x.isSoundMeters(), true);
        UtilityWorks y = fed(1);
        y.unseal(0, 0);
        y.slow(0, 0, 1);
        y.pass(1);
        Edges.due("99 hundredths", y.meterIs(0, 0, 8), 0);
        Edges.due("sound with 99", y.isSoundMeters(), true);
        x.unseal(0, 0);
        x.slow(0, 0, 1);
        x.pass(1);
        Edges.due("189", x.meterIs(0, 0, 0), 3);
        x.slow(0, 0, 0);
        x.need(0, 0, 20);
        x.pass(1);
        Edges.due("20 and 89 hundredths", x.meterIs(0, 0, 8), 23);
        Edges.due("got less turned", x.loss(0), 41 - 23);
    }

    /** slow: 0 to 90, of a METER that is not SEALED; seal: it is SLOW by 0 then. */
    static void slowUpTo90() {
        UtilityWorks x = fed(10);
        Edges.due("sealed at first", x.meterIs(0, 0, 2), 1);
        Edges.due("slow by none at first", x.meterIs(0, 0, 1), 0);
        x.unseal(0, 0);
        Edges.due("not sealed", x.meterIs(0, 0, 2), 0);
        Edges.due("slow", x.slow(0, 0, 90), 0);
        Edges.due("slow", x.slow(0, 0, 0), 90);
        Edges.due("slow", x.slow(0, 0, 1), 0);
        Edges.refused("slow", Edges.NO_RANGE, () -> x.slow(0, 0, 91));
        Edges.due("seal", x.seal(0, 0), 1);
        Edges.due("slow by none", x.meterIs(0, 0, 1), 0);
        Edges.due("sealed", x.meterIs(0, 0, 2), 1);
        Edges.due("others stay sealed", x.meterIs(0, 1, 2) + x.meterIs(1, 0, 2), 2);
    }

    /** meterIs without a READING: NONE for its DAY, 0 for what it showed, the NEED for the RATE. */
    static void aMeterWithoutAReading() {
        UtilityWorks x = fed(12);
        int[] first = {0, 0, 1, 0, -1, 0, 0, 12, 0};
        for (int what = 0; what < 9; what++) {
            Edges.due("at first " + what, x.meterIs(0, 0, what), first[what]);
        }
        x.need(0, 0, 5);
        Edges.due("the need of now", x.meterIs(0, 0, 7), 5);
        x.pass(3);
        Edges.due("estimate", x.estimate(0, 0), 15);
        int[] then = {15, 0, 1, 15, 3, 0, 0, 5, 15};
        for (int what = 0; what < 9; what++) {
            Edges.due("estimated " + what, x.meterIs(0, 0, what), then[what]);
        }
    }

    /** The RATE: rounded down; the NEED without a RIGHT READING, or if these are 0 DAYS. */
    static void theRateIsRoundedDown() {
        UtilityWorks x = fed(7);
        x.pass(2);
        x.need(0, 0, 6);
        x.pass(1);
        x.need(0, 0, 11);
        Edges.due("the first one", x.read(0, 0), 20);
        Edges.due("20 by 3", x.meterIs(0, 0, 7), 6);
        Edges.due("read again", x.read(0, 0), 0);
        Edges.due("0 days: the need", x.meterIs(0, 0, 7), 11);
        x.pass(1);
        x.need(0, 0, 0);
        x.pass(3);
        Edges.due("read", x.read(0, 0), 11);
        Edges.due("11 by 4", x.meterIs(0, 0, 7), 2);
        x.pass(1);
        x.need(0, 0, 9);
        x.estimate(0, 0);
        Edges.due("an estimate leaves it", x.meterIs(0, 0, 7), 2);
        Edges.due("read", x.read(0, 0), 0);
        Edges.due("nothing in a day", x.meterIs(0, 0, 7), 0);
        x.pass(5);
        Edges.due("so nothing is estimated", x.estimate(0, 0), 0);
    }

    /** The first one: behind the DAY on which the CUSTOMER was told. */
    static void ratesFromTheDayOfTheCustomer() {
        UtilityWorks x = Edges.quiet();
        x.pass(10);
        int customer = Edges.customer(x, 0, 0, 0, 8);
        Edges.due("read on that day", x.read(customer, 0), 0);
        Edges.due("0 days: the need", x.meterIs(customer, 0, 7), 8);
        int other = Edges.customer(x, 0, 0, 0, 6);
        Edges.due("estimate on that day", x.estimate(other, 0), 0);
        x.pass(4);
        Edges.due("read", x.read(customer, 0), 32);
        Edges.due("32 by 4", x.meterIs(customer, 0, 7), 8);
        Edges.due("estimate", x.estimate(other, 0), 24);
        Edges.due("read", x.read(other, 0), 24);
        Edges.due("24 by 4", x.meterIs(other, 0, 7), 6);
    }

    /** An ESTIMATED READING: the RATE times the DAYS since the READING ahead of it, of whichever kind. */
    static void estimatesSinceTheReadingAhead() {
        UtilityWorks x = fed(5);
        x.pass(2);
        Edges.due("since it was told", x.estimate(0, 0), 10);
        Edges.due("on the same day", x.estimate(0, 0), 0);
        x.pass(3);
        Edges.due("since the estimate", x.estimate(0, 0), 15);
        Edges.due("counted", x.meterIs(0, 0, 3), 25);
        x.pass(1);
        Edges.due("read", x.read(0, 0), 30);
        Edges.due("counted", x.meterIs(0, 0, 3), 30);
        x.pass(2);
        Edges.due("since it was read", x.estimate(0, 0), 10);
        Edges.due("counted", x.meterIs(0, 0, 3), 40);
        Edges.due("not right", x.meterIs(0, 0, 5), 0);
        Edges.due("what the right one showed", x.meterIs(0, 0, 6), 30);
    }

    /** COUNTED: all that RIGHT READINGS showed, together; it may become less by one. */
    static void countedMayBecomeLess() {
        UtilityWorks x = fed(5);
        x.start(0, false);
        x.start(1, false);
        x.pass(4);
        Edges.due("estimate", x.estimate(0, 0), 20);
        Edges.due("read", x.read(0, 0), 0);
        Edges.due("counted", x.meterIs(0, 0, 3), 0);
        Edges.due("right", x.meterIs(0, 0, 5), 1);
        Edges.due("on", x.meterIs(0, 0, 4), 4);
    }

    /** A DAY is DRY, if it WANTED more than 0, and GOT 0. */
    static void dryIfItGotNone() {
        UtilityWorks x = Edges.quiet();
        x.connect(2, 1, true);
        x.reserve(0, 149);
        x.pass(1);
        Edges.due("1 of 3", x.customerIs(2, 7) * 10 + x.customerIs(2, 10), 10);
        x.pass(1);
        Edges.due("0 of 3", x.customerIs(2, 7) * 10 + x.customerIs(2, 10), 1);
        x.need(2, 1, 0);
        x.pass(1);
        Edges.due("0 of 0", x.customerIs(2, 10), 1);
        x.need(2, 1, 3);
        x.connect(2, 1, false);
        x.pass(1);
        Edges.due("not connected", x.customerIs(2, 10), 1);
        x.connect(0, 2, true);
        x.weather(18, 0, 0);
        x.pass(1);
        Edges.due("no cold", x.customerIs(0, 11), 0);
        x.weather(17, 0, 0);
        x.pass(1);
        Edges.due("cold", x.customerIs(0, 11), 1);
        x.need(0, 2, 9);
        x.pass(1);
        Edges.due("9 at 17", x.customerIs(0, 11), 1);
    }

    /** What it GOT on the latest DAY: 0 ahead of any. */
    static void gotOnTheLatestDay() {
        UtilityWorks x = fed(9);
        Edges.due("ahead of any", x.customerIs(0, 6), 0);
        x.pass(1);
        Edges.due("got", x.customerIs(0, 6), 9);
        x.connect(0, 0, false);
        Edges.due("on the latest day", x.customerIs(0, 6), 9);
        x.pass(1);
        Edges.due("nothing", x.customerIs(0, 6), 0);
        Edges.due("turned", x.meterIs(0, 0, 8), 9);
    }

    /** A new CUSTOMER: NEEDS of 0, CONNECTED to nothing; 10 of them. */
    static void aNewCustomer() {
        UtilityWorks x = new UtilityWorks();
        for (int k = 6; k < 10; k++) {
            Edges.due("customer", x.customer(k, k), k);
            int[] due = {k, k, 0, 0, 0, 0, 0, 0, 0, 0, 0, 0};
            for (int what = 0; what < 12; what++) {
                Edges.due("of " + k + ", " + what, x.customerIs(k, what), due[what]);
            }
            Edges.due("warmth", x.warmth(k), 18);
            Edges.due("dark", x.dark(k), 0);
            Edges.due("owes", x.owes(k), 0);
            Edges.due("bills", x.bills(k), 0);
        }
        Edges.refused("one more", Edges.NO_STATE, () -> x.customer(0, 0));
        Edges.refused("the one that was refused", Edges.NO_THING, () -> x.customerIs(10, 0));
    }

    /** The SUSPECT: the greatest GAP, above 0, of like ones the lowest; NONE without one. */
    static void suspects() {
        UtilityWorks x = Edges.quiet();
        Edges.due("nobody", x.suspect(0), -1);
        for (int k = 1; k < 4; k++) {
            x.need(k, 0, 4);
            x.connect(k, 0, true);
        }
        x.pass(3);
        Edges.due("no gap", x.suspect(0), -1);
        for (int k = 2; k < 4; k++) {
            x.unseal(k, 0);
            x.slow(k, 0, 1);
        }
        x.pass(1);
        Edges.due("of like ones the lowest", x.suspect(0), 2);
        Edges.due("loss", x.loss(0), 2);
        x.slow(3, 0, 90);
        x.pass(1);
        Edges.due("the greatest", x.suspect(0), 3);
        Edges.due("of another good", x.suspect(1), -1);
        x.start(0, false);
        x.start(1, false);
        x.connect(2, 0, false);
        x.connect(3, 0, false);
        x.pass(1);
        Edges.due("a gap of 4, as of 3", x.suspect(0), 1);
        x.connect(4, 1, true);
        x.reserve(0, 150);
        x.pass(1);
        Edges.due("one who gets none", x.suspect(1), 4);
        Edges.due("nothing was sent", x.loss(1), 0);
    }

    /** connect: whether it was; each GOOD for itself. */
    static void connectedToEachGood() {
        UtilityWorks x = Edges.quiet();
        for (int good = 0; good < 3; good++) {
            Edges.due("connect", x.connect(1, good, true), false);
            Edges.due("again", x.connect(1, good, true), true);
            Edges.due("set", x.customerIs(1, 2), (2 << good) - 1);
        }
        for (int good = 0; good < 3; good++) {
            Edges.due("disconnect", x.connect(1, good, false), true);
            Edges.due("again", x.connect(1, good, false), false);
        }
        Edges.due("set", x.customerIs(1, 2), 0);
    }

    public static void main(String[] args) {
        Edges.runAll(MeterEdgesTest.class);
    }
}
