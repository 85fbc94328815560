import java.util.List;

/** The edges that the document names of the town, its LINKS, DAYS and images: promises 1 to 4. */
public final class TownEdgesTest {
    /** It LEADS, if it is SOUND and ON. */
    static void leadsOnlyIfSoundAndOn() {
        for (int good = 0; good < 3; good++) {
            UtilityWorks x = new UtilityWorks();
            Edges.due("sound and on", x.linkIs(good, 9, 4), 1);
            x.turn(good, 9, false);
            Edges.due("sound, off", x.linkIs(good, 9, 2) * 100 + x.linkIs(good, 9, 3) * 10 + x.linkIs(good, 9, 4), 100);
            x.breaks(good, 9);
            Edges.due("broken, off", x.linkIs(good, 9, 2) * 100 + x.linkIs(good, 9, 3) * 10 + x.linkIs(good, 9, 4), 0);
            x.turn(good, 9, true);
            Edges.due("broken, on", x.linkIs(good, 9, 2) * 100 + x.linkIs(good, 9, 3) * 10 + x.linkIs(good, 9, 4), 10);
        }
    }

    /** linkIs: 0 for all without one. */
    static void noLinkTellsOnlyZeros() {
        UtilityWorks x = new UtilityWorks();
        for (int what = 0; what < 5; what++) {
            Edges.due("line in 3", x.linkIs(0, 3, what), 0);
            Edges.due("pipe in 16", x.linkIs(1, 16, what), 0);
            Edges.due("main in 16", x.linkIs(2, 16, what), 0);
        }
    }

    /** A LINK of POWER that becomes SOUND, and would close a ring by that, becomes OFF. */
    static void aLineThatWouldCloseARingBecomesOff() {
        UtilityWorks x = new UtilityWorks();
        x.lay(0, 3, 40);
        x.breaks(0, 10);
        x.turn(0, 3, true);
        Edges.due("on though broken", x.linkIs(0, 10, 3), 1);
        mend(x, 0, 10);
        Edges.due("sound", x.linkIs(0, 10, 2), 1);
        Edges.due("off", x.linkIs(0, 10, 3), 0);
        Edges.due("not tripped", x.lineIs(10, 2), 0);
        Edges.due("the other one leads", x.linkIs(0, 3, 4), 1);
    }

    /** The same: but not one that closes none, nor a PIPE, nor is one that is OFF turned ON. */
    static void aLinkThatClosesNoRingStaysAsItWas() {
        UtilityWorks x = new UtilityWorks();
        x.breaks(0, 10);
        mend(x, 0, 10);
        Edges.due("on", x.linkIs(0, 10, 4), 1);
        x.turn(0, 10, false);
        x.breaks(0, 10);
        mend(x, 0, 10);
        Edges.due("sound", x.linkIs(0, 10, 2), 1);
        Edges.due("off as it was", x.linkIs(0, 10, 3), 0);
        UtilityWorks y = new UtilityWorks();
        Edges.layUnder(y, 1, 3, 40);
        y.breaks(1, 10);
        Edges.dig(y, 10);
        mend(y, 1, 10);
        Edges.due("a ring of pipes", y.linkIs(1, 10, 4), 1);
    }

    /** Lets the CREW 0 MEND a LINK while three DAYS go by; the CREW is at its SPOT by the second one. */
    private static void mend(UtilityWorks x, int good, int street) {
        int job = x.job(2, good, street, 9);
        x.pass(3);
        Edges.due("mended", x.jobIs(job, 4), 2);
    }

    /** lay: SOUND and OFF; lines that are laid where they close a ring, too. */
    static void whatIsLaidIsSoundAndOff() {
        UtilityWorks x = new UtilityWorks();
        Edges.due("lines", x.lay(0, 8, 1), 12);
        Edges.due("its state", x.linkIs(0, 8, 1) * 1000 + x.linkIs(0, 8, 2) * 100 + x.linkIs(0, 8, 3) * 10, 1100);
        Edges.due("it is there", x.count(1), 12);
        Edges.due("pipes are as many", x.count(2), 7);
        x.breaks(0, 8);
        Edges.due("broken ones are counted, too", x.lay(0, 7, 999), 13);
        Edges.due("each is paid", x.journal(6), 6000);
    }

    /** JOINED: through any others, by LINKS that LEAD; one is to itself. */
    static void joinedByLinksThatLead() {
        UtilityWorks x = new UtilityWorks();
        Edges.due("next to each other", x.joined(1, 0, 1), true);
        Edges.due("through others", x.joined(1, 3, 4), true);
        Edges.due("and back", x.joined(1, 4, 3), true);
        Edges.due("of another good", x.joined(2, 3, 4), false);
        Edges.due("to itself without a link", x.joined(2, 11, 11), true);
        x.turn(1, 1, false);
        Edges.due("one is off", x.joined(1, 3, 4), false);
        x.turn(1, 1, true);
        x.breaks(1, 1);
        Edges.due("one is broken", x.joined(1, 3, 4), false);
        Edges.due("this side of it", x.joined(1, 1, 4), true);
        Edges.due("that side of it", x.joined(1, 2, 3), true);
    }

    /** The works have MONEY, which may be below 0. */
    static void moneyMayBeBelow0() {
        UtilityWorks x = new UtilityWorks();
        x.pay(0, 1);
        x.fund(99999);
        x.fund(2);
        Edges.due("no money", x.journal(0), 0);
        x.lay(0, 3, 40);
        Edges.due("a line", x.journal(0), -3000);
        x.permit(0, 3, 0, 1);
        Edges.due("a permit", x.journal(0), -3500);
        x.share(0, 1);
        Edges.due("shared", x.journal(0), -3750);
        x.hire(3, true);
        Edges.due("dug", x.journal(0), -8750);
        x.hire(3, false);
        Edges.due("filled", x.journal(0), -10750);
        x.pass(1);
        Edges.due("wages", x.journal(0), -10950);
        Edges.due("spent", x.journal(6), 10950);
        Edges.due("sound", x.isSoundBooks(), true);
    }

    /** DAYS are counted from 0, at most 999. */
    static void daysAreFrom0To999() {
        UtilityWorks x = new UtilityWorks();
        Edges.due("day", x.count(0), 0);
        Edges.due("one day", x.pass(1), 1);
        Edges.due("60 days", x.pass(60), 61);
        Edges.passTo(x, 998);
        Edges.refused("two more", Edges.NO_STATE, () -> x.pass(2));
        Edges.due("day", x.count(0), 998);
        Edges.due("one more", x.pass(1), 999);
        Edges.refused("one more", Edges.NO_STATE, () -> x.pass(1));
        Edges.due("sound", x.isSound(), true);
        Edges.due("bills of all days", x.bills(0), 33);
        Edges.due("the last one", x.billIs(0, 32, 0), 989);
    }

    /** The weather comes ahead of the CREWS: what is FLOODED with a DAY closes their ways on it. */
    static void weatherComesAheadOfCrews() {
        UtilityWorks x = new UtilityWorks();
        x.height(0, 17);
        x.height(1, 17);
        x.height(4, 17);
        x.weather(10, 0, 9);
        x.job(2, 0, 1, 0);
        Edges.due("not flooded yet", x.way(0, 1), 1);
        x.pass(1);
        Edges.due("no job", x.crewIs(0, 3), -1);
        x.weather(10, 0, 8);
        x.pass(1);
        Edges.due("none is flooded", x.crewIs(0, 6), 1);
    }

    /** The CREWS come ahead of POWER: what is mended on a DAY feeds on it. */
    static void crewsComeAheadOfPower() {
        UtilityWorks x = new UtilityWorks();
        x.start(1, false);
        x.plant(2, 300);
        x.start(0, false);
        x.breaks(0, 0);
        x.overtime(0, true);
        x.job(2, 0, 0, 9);
        Edges.due("shed for now", x.shed(2), 1 << 3);
        x.pass(1);
        Edges.due("dark", x.dark(3), 0);
    }

    /** POWER comes ahead of WATER, that ahead of HEAT, that ahead of the METERS. */
    static void aTripIsFeltUpToTheMetersOnThatDay() {
        UtilityWorks x = new UtilityWorks();
        x.bound(0, 0, 1);
        x.bound(0, 9, 1);
        x.bound(0, 16, 1);
        x.reserve(0, 150);
        Edges.due("on still", x.linkIs(0, 0, 3) + x.linkIs(0, 9, 3) + x.linkIs(0, 16, 3), 3);
        x.pass(1);
        Edges.due("off", x.linkIs(0, 0, 3) + x.linkIs(0, 9, 3) + x.linkIs(0, 16, 3), 0);
        Edges.due("the wells gave nothing", x.waterSum(0), 0);
        Edges.due("the boiler is out", x.boilerIs(0, 3), 0);
        Edges.due("no power got", x.customerIs(0, 6), 0);
        Edges.due("no heat got", x.customerIs(0, 8), 0);
        Edges.due("dry", x.customerIs(0, 9) + x.customerIs(0, 11), 2);
    }

    /** The METERS come ahead of the BOOKS: a BILL counts its own DAY. */
    static void metersComeAheadOfBooks() {
        UtilityWorks x = new UtilityWorks();
        x.pass(29);
        x.turn(0, 11, false);
        x.pass(1);
        Edges.due("the refund of that day", x.billIs(5, 0, 4), 50);
        Edges.due("its day", x.billIs(5, 0, 0), 29);
        UtilityWorks y = new UtilityWorks();
        y.pass(30);
        y.turn(0, 11, false);
        y.pass(1);
        Edges.due("not of the day behind it", y.billIs(5, 0, 4), 0);
    }

    /** The BOOKS come ahead of the STORES: what the FUND gives buys PARTS on that DAY. */
    static void booksComeAheadOfStores() {
        UtilityWorks x = new UtilityWorks();
        x.pass(29);
        x.poor(5, true);
        x.fund((int) x.journal(0));
        x.least(0, 5);
        x.pass(1);
        Edges.due("the gift", x.billIs(5, 0, 5), (300 + 100 * 20 + 103 * 30) / 2);
        Edges.due("ordered", x.storeIs(0, 1), 6);
        Edges.due("money", x.journal(0), 2695 - 200 - 2400);
    }

    /** The STORES come ahead of the STREETS: a FINE does not keep from an ORDER. */
    static void storesComeAheadOfStreets() {
        UtilityWorks x = new UtilityWorks();
        Edges.dig(x, 3);
        x.fund((int) x.journal(0) - 2600);
        x.least(0, 5);
        x.pass(1);
        Edges.due("ordered", x.storeIs(0, 1), 6);
        Edges.due("fined", x.journal(0), -1000);
    }

    /** What is asked of POWER, WATER and HEAT tells the next DAY with the weather of now, though it will be drawn. */
    static void whatIsAskedIsWithTheWeatherOfNow() {
        UtilityWorks x = new UtilityWorks();
        x.weather(-2, 0, 0);
        x.draws(1);
        Edges.due("the cold of now", x.heatAt(5, 0), 20);
        x.pass(1);
        Edges.due("the cold that was drawn", x.customerIs(0, 8), 3);
        Edges.due("it was", x.weatherIs(0), 149 % 31 - 10);
        Edges.due("the cold of now", x.heatAt(5, 0), 3);
    }

    /** keep, bring: all that the town is; images stay. */
    static void anImageIsAllOfTheTown() {
        List<String> due = View.of(TownEdgesTest::kept);
        View.same("brought", View.of(() -> {
            UtilityWorks x = kept();
            change(x);
            x.bring(0);
            return x;
        }), due);
        View.same("brought twice", View.of(() -> {
            UtilityWorks x = kept();
            change(x);
            x.bring(0);
            change(x);
            x.bring(0);
            return x;
        }), due);
        View.same("gone on", View.of(() -> {
            UtilityWorks x = kept();
            change(x);
            x.bring(0);
            x.pass(9);
            return x;
        }), View.of(() -> {
            UtilityWorks x = kept();
            x.pass(9);
            return x;
        }));
    }

    private static UtilityWorks kept() {
        UtilityWorks x = new UtilityWorks();
        x.permit(1, 3, 0, 9);
        x.job(2, 0, 1, 3);
        x.storm(1, 7);
        x.order(2, 3);
        x.unseal(0, 0);
        x.slow(0, 0, 33);
        x.pass(31);
        x.split(2, 3);
        x.job(2, 1, 13, 4);
        x.job(0, 0, 16, 7);
        x.order(1, 4);
        x.permit(2, 5, 33, 3);
        x.poor(0, true);
        x.pass(1);
        x.storm(2, 4);
        x.keep(0);
        x.keep(1);
        return x;
    }

    private static void change(UtilityWorks x) {
        x.height(3, 4);
        x.surface(5, 2);
        x.market(6, 5);
        x.lay(0, 4, 33);
        x.breaks(1, 2);
        x.turn(2, 0, false);
        x.bound(0, 1, 7);
        x.permit(0, 8, x.count(0), 9);
        x.hire(8, true);
        x.plant(5, 77);
        x.start(0, false);
        x.well(0, 3, 3);
        x.tank(0, 9, 1);
        x.pump(0, false);
        x.reserve(0, 5);
        x.leak(0, 3);
        x.fire(3, 5);
        x.boiler(7, 100);
        x.coal(1, 9);
        x.light(1, true);
        Edges.customer(x, 2, 2, 0, 9);
        x.unseal(0, 1);
        x.slow(0, 1, 50);
        x.read(0, 2);
        x.estimate(1, 0);
        x.tariff(0, 0, 1);
        x.pay(1, 700);
        x.pay(2, 99);
        x.split(3, 4);
        x.poor(2, true);
        x.poor(0, false);
        x.fund(800);
        x.crew(9, 4, 1);
        x.overtime(0, true);
        x.job(2, 1, 2, 3);
        x.dropJob(x.job(3, 1, 2, 3));
        x.order(0, 2);
        x.least(2, 9);
        x.weather(-15, 7, 4);
        x.draws(77);
        x.storm(1, 9);
        x.alarm(true);
        x.report(3);
        x.pass(33);
    }

    /** Nothing changes by what only tells, though it looks at what would be. */
    static void askingChangesNothing() {
        List<String> due = View.of(TownEdgesTest::storm);
        List<String> then = View.of(() -> goneOn(storm()));
        View.same("asked", View.of(() -> asked(storm())), due);
        View.same("asked, then", View.of(() -> goneOn(asked(storm()))), then);
    }

    /** A town in which much is BROKEN, OFF, TRIPPED, SHED and owed. */
    private static UtilityWorks storm() {
        UtilityWorks x = kept();
        x.lay(0, 3, 60);
        x.breaks(0, 10);
        x.breaks(0, 16);
        x.breaks(1, 14);
        x.breaks(2, 9);
        x.turn(0, 11, false);
        x.bound(0, 0, 9);
        x.draws(5);
        x.pass(2);
        x.bound(0, 9, 9);
        return x;
    }

    private static UtilityWorks goneOn(UtilityWorks x) {
        x.pass(29);
        return x;
    }

    private static UtilityWorks asked(UtilityWorks x) {
        for (int what = 0; what < 4; what++) {
            x.mending(what);
            x.switching(what % 2);
        }
        for (int s = 0; s < 17; s++) {
            int street = s;
            for (int g = 0; g < 3; g++) {
                int good = g;
                Edges.told(() -> x.gain(good, street));
            }
            Edges.told(() -> x.waterWithout(street));
            Edges.told(() -> x.heatWithout(street));
            Edges.told(() -> x.flowAnew(street));
        }
        for (int customer = 0; customer < 6; customer++) {
            x.billNow(customer);
            x.notice(customer, 0);
        }
        x.nextJob(0);
        x.nextJob(1);
        x.firstFree(3, 9);
        x.content();
        x.lostAnew();
        Edges.due("sound", x.isSound(), true);
        return x;
    }

    /** The two images are kept for themselves; one can be kept again, and is that one then. */
    static void imagesAreKeptForThemselves() {
        UtilityWorks x = new UtilityWorks();
        Edges.due("keep", x.keep(0), 0);
        x.pass(2);
        Edges.due("keep", x.keep(1), 2);
        x.pass(3);
        Edges.due("bring", x.bring(0), 0);
        Edges.due("day", x.count(0), 0);
        Edges.due("bring the later one", x.bring(1), 2);
        Edges.due("bring the first one again", x.bring(0), 0);
        x.pass(7);
        Edges.due("keep over it", x.keep(0), 7);
        x.pass(1);
        Edges.due("bring", x.bring(0), 7);
        Edges.due("the other one stays", x.bring(1), 2);
        x.height(0, 77);
        Edges.due("bring again", x.bring(1), 2);
        Edges.due("an image is not changed by the town", x.height(0, 0), 20);
    }

    /** count: LINKS, those that are BROKEN, STREETS that are DUG and FLOODED, PERMITS; none, one, and all. */
    static void countsFromNoneToAll() {
        UtilityWorks x = new UtilityWorks();
        int[] first = {0, 11, 7, 4, 0, 0, 0, 0, 0, 0};
        for (int what = 0; what < 10; what++) {
            Edges.due("count " + what, x.count(what), first[what]);
        }
        for (int s : new int[] {0, 1, 2, 9, 10, 11, 12, 13, 14, 15, 16}) {
            x.breaks(0, s);
        }
        for (int s : new int[] {0, 1, 2, 9, 10, 13, 14}) {
            x.breaks(1, s);
        }
        for (int s : new int[] {0, 1, 9, 10}) {
            x.breaks(2, s);
        }
        Edges.due("all lines are broken", x.count(4), 11);
        Edges.due("all pipes are broken", x.count(5), 7);
        Edges.due("all mains are broken", x.count(6), 4);
        Edges.due("they are there", x.count(1) + x.count(2) + x.count(3), 22);
        for (int c = 0; c < 12; c++) {
            x.height(c, 17);
        }
        x.weather(10, 0, 9);
        x.pass(1);
        Edges.due("all streets are flooded", x.count(8), 17);
        for (int s = 0; s < 17; s++) {
            Edges.dig(x, s);
        }
        Edges.due("all streets are dug", x.count(7), 17);
        Edges.due("sound", x.isSound(), true);
    }

    /** The example of README.md. */
    static void theExampleOfTheReadme() {
        UtilityWorks town = new UtilityWorks();
        Edges.due("breaks", town.breaks(1, 10), true);
        Edges.due("permit", town.permit(1, 10, 0, 9), 0);
        Edges.due("dig", town.job(0, 1, 10, 9), 0);
        Edges.due("mend", town.job(2, 1, 10, 5), 1);
        Edges.due("pass", town.pass(4), 4);
        Edges.due("sound again", town.linkIs(1, 10, 2), 1);
        Edges.due("content", town.content(), 6);
    }

    public static void main(String[] args) {
        Edges.runAll(TownEdgesTest.class);
    }
}
