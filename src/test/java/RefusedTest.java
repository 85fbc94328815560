import java.util.List;
import java.util.function.Function;
import java.util.function.Supplier;

/**
 * Each sentence "Throws IllegalStateException if ..": the call throws just that then, what is out of range or not there
 * is told ahead of it, nothing has changed, and the town goes on as if it had not been asked; and what is just not
 * refused any more is done.
 */
public final class RefusedTest {
    private static void refuses(String what, Edges.Change first, Function<UtilityWorks, Object> call) {
        Supplier<UtilityWorks> made = () -> made(first);
        Supplier<UtilityWorks> asked = () -> {
            UtilityWorks x = made(first);
            Edges.refused(what, Edges.NO_STATE, () -> call.apply(x));
            return x;
        };
        View.same(what, View.of(asked), View.of(made));
        View.same(what + ", then", View.of(() -> goneOn(asked.get())), View.of(() -> goneOn(made.get())));
        UtilityWorks x = asked.get();
        Edges.refused(what + ", asked again", Edges.NO_STATE, () -> call.apply(x));
    }

    private static UtilityWorks made(Edges.Change first) {
        UtilityWorks x = new UtilityWorks();
        x.keep(0);
        first.to(x);
        return x;
    }

    private static UtilityWorks goneOn(UtilityWorks x) {
        Edges.told(() -> x.pass(3));
        return x;
    }

    private static void ahead(String what, Edges.Change first, Class<? extends RuntimeException> due,
            Function<UtilityWorks, Object> call) {
        UtilityWorks x = made(first);
        Edges.refused(what, due, () -> call.apply(x));
    }

    private static void nothing(UtilityWorks x) {
        // the town as it is at first
    }

    /** turn: if there is no LINK of that GOOD in it. */
    static void turnWantsALink() {
        refuses("turn", RefusedTest::nothing, x -> x.turn(2, 2, true));
        refuses("turn off", RefusedTest::nothing, x -> x.turn(1, 16, false));
        refuses("turn", RefusedTest::nothing, x -> x.turn(0, 8, false));
        ahead("turn", RefusedTest::nothing, Edges.NO_THING, x -> x.turn(3, 8, false));
    }

    /** turn: or it is to be ON and is of POWER, SOUND, and would close a ring. */
    static void turnClosesNoRing() {
        Edges.Change laid = x -> x.lay(0, 3, 40);
        refuses("turn", laid, x -> x.turn(0, 3, true));
        UtilityWorks x = made(laid);
        Edges.due("off", x.turn(0, 3, false), false);
        Edges.due("open the ring", x.turn(0, 0, false), true);
        Edges.due("no ring now", x.turn(0, 3, true), false);
        Edges.due("on what leads", x.turn(0, 3, true), true);
        Edges.refused("the other way round", Edges.NO_STATE, () -> x.turn(0, 0, true));
        x.breaks(0, 0);
        Edges.due("one that is broken", x.turn(0, 0, true), false);
        UtilityWorks y = new UtilityWorks();
        Edges.layUnder(y, 1, 3, 40);
        Edges.due("a ring of pipes", y.linkIs(1, 3, 4), 1);
        Edges.layUnder(y, 2, 3, 40);
        Edges.due("a ring of mains", y.linkIs(2, 3, 4), 1);
    }

    /** bound: if there is no LINK of that GOOD in it. */
    static void boundWantsALink() {
        refuses("bound", RefusedTest::nothing, x -> x.bound(2, 2, 5));
        ahead("bound", RefusedTest::nothing, Edges.NO_RANGE, x -> x.bound(2, 2, 0));
        ahead("bound", RefusedTest::nothing, Edges.NO_RANGE, x -> x.bound(2, 2, 1000));
        ahead("bound", RefusedTest::nothing, Edges.NO_THING, x -> x.bound(2, 17, 1000));
    }

    /** lay: if there is one of that GOOD in it, or it is not POWER, and the STREET is not DUG. */
    static void layWantsNoLinkAndAnOpenStreet() {
        refuses("lay where one is", RefusedTest::nothing, x -> x.lay(0, 0, 5));
        refuses("lay where a pipe is", x -> Edges.dig(x, 0), x -> x.lay(1, 0, 5));
        refuses("lay where one is broken", x -> x.breaks(0, 0), x -> x.lay(0, 0, 5));
        refuses("lay a pipe undug", RefusedTest::nothing, x -> x.lay(1, 3, 5));
        refuses("lay a main undug", RefusedTest::nothing, x -> x.lay(2, 3, 5));
        refuses("lay a main filled again", RefusedTest::filled, x -> x.lay(2, 3, 5));
        ahead("lay", RefusedTest::nothing, Edges.NO_RANGE, x -> x.lay(0, 0, 0));
        ahead("lay", RefusedTest::nothing, Edges.NO_RANGE, x -> x.lay(1, 3, 1000));
        ahead("lay", RefusedTest::nothing, Edges.NO_THING, x -> x.lay(3, 0, 0));
        UtilityWorks x = new UtilityWorks();
        Edges.due("a line needs no digging", x.lay(0, 3, 999), 12);
        Edges.dig(x, 3);
        Edges.due("a pipe", x.lay(1, 3, 1), 8);
        Edges.due("a main", x.lay(2, 3, 1), 5);
        Edges.dig(x, 4);
        Edges.due("a line in a dug street", x.lay(0, 4, 1), 13);
    }

    private static void filled(UtilityWorks x) {
        Edges.dig(x, 3);
        x.hire(3, false);
    }

    /** breaks: if there is no LINK of that GOOD in it. */
    static void breaksWantsALink() {
        refuses("breaks", RefusedTest::nothing, x -> x.breaks(2, 2));
        ahead("breaks", RefusedTest::nothing, Edges.NO_THING, x -> x.breaks(-1, 2));
    }

    /** pass: if it would be above 999. */
    static void noDayIsAbove999() {
        refuses("pass from 940", x -> Edges.passTo(x, 940), x -> x.pass(60));
        refuses("pass from 999", x -> Edges.passTo(x, 999), x -> x.pass(1));
        ahead("pass", x -> Edges.passTo(x, 999), Edges.NO_RANGE, x -> x.pass(0));
        ahead("pass", x -> Edges.passTo(x, 999), Edges.NO_RANGE, x -> x.pass(61));
        UtilityWorks x = new UtilityWorks();
        Edges.passTo(x, 940);
        Edges.due("pass", x.pass(59), 999);
        UtilityWorks y = new UtilityWorks();
        Edges.passTo(y, 939);
        Edges.due("pass", y.pass(60), 999);
    }

    /** bring: if none was kept. */
    static void bringWantsAnImage() {
        UtilityWorks x = new UtilityWorks();
        Edges.refused("bring 0", Edges.NO_STATE, () -> x.bring(0));
        Edges.refused("bring 1", Edges.NO_STATE, () -> x.bring(1));
        Edges.refused("bring 2", Edges.NO_THING, () -> x.bring(2));
        Edges.refused("bring -1", Edges.NO_THING, () -> x.bring(-1));
        x.keep(1);
        Edges.refused("bring 0 still", Edges.NO_STATE, () -> x.bring(0));
        Edges.due("bring 1", x.bring(1), 0);
        refuses("bring the other", y -> y.pass(2), y -> y.bring(1));
    }

    /** surface: if the STREET is DUG. */
    static void surfaceOfNoDugStreet() {
        refuses("surface", x -> Edges.dig(x, 0), x -> x.surface(0, 0));
        refuses("surface that it has", x -> Edges.dig(x, 0), x -> x.surface(0, 1));
        ahead("surface", x -> Edges.dig(x, 0), Edges.NO_RANGE, x -> x.surface(0, 3));
        ahead("surface", x -> Edges.dig(x, 0), Edges.NO_THING, x -> x.surface(-1, 3));
        UtilityWorks x = new UtilityWorks();
        Edges.dig(x, 0);
        Edges.due("another street", x.surface(1, 2), 1);
        x.hire(0, false);
        Edges.due("filled again", x.surface(0, 2), 1);
    }

    /** permit: if there are 16. */
    static void permitsAreAtMost16() {
        Edges.Change all = x -> permits(x, 16);
        refuses("permit", all, x -> x.permit(0, 16, 0, 1));
        ahead("permit", all, Edges.NO_RANGE, x -> x.permit(0, 16, 0, 0));
        ahead("permit", all, Edges.NO_RANGE, x -> x.permit(0, 16, 10000, 1));
        ahead("permit", all, Edges.NO_THING, x -> x.permit(0, 17, 0, 1));
        UtilityWorks x = made(y -> permits(y, 15));
        Edges.due("the last one", x.permit(0, 16, 0, 1), 15);
    }

    private static void permits(UtilityWorks x, int many) {
        for (int k = 0; k < many; k++) {
            x.permit(k % 3, k, k, 1);
        }
    }

    /** permit: or it MAY not be given, for each REASON. */
    static void permitsMayBeGiven() {
        refuses("behind us", x -> x.pass(3), x -> x.permit(0, 3, 2, 9));
        refuses("another holds", x -> x.permit(0, 3, 4, 2), x -> x.permit(1, 3, 0, 5));
        refuses("a market", x -> x.market(3, 1 << 6), x -> x.permit(1, 3, 5, 2));
        refuses("filled", x -> filledAsphalt(x), x -> x.permit(1, 3, 19, 1));
        refuses("frost", x -> x.weather(-1, 0, 0), x -> x.permit(1, 0, 3, 1));
        ahead("permit", x -> x.weather(-1, 0, 0), Edges.NO_RANGE, x -> x.permit(1, 0, 3, 10));
    }

    private static void filledAsphalt(UtilityWorks x) {
        Edges.dig(x, 3);
        x.hire(3, false);
        x.surface(3, 2);
    }

    /** share: if the PERMIT is for that GOOD, or is SHARED by it. */
    static void shareOnceEach() {
        Edges.Change one = x -> x.permit(1, 3, 2, 2);
        refuses("its own good", one, x -> x.share(0, 1));
        refuses("twice", x -> shared(x, 0), x -> x.share(0, 0));
        refuses("twice", x -> shared(x, 2), x -> x.share(0, 2));
        ahead("share", one, Edges.NO_THING, x -> x.share(0, 3));
        ahead("share", one, Edges.NO_THING, x -> x.share(1, 1));
        UtilityWorks x = made(y -> shared(y, 0));
        Edges.due("the third good", x.share(0, 2), 500);
    }

    private static void shared(UtilityWorks x, int good) {
        x.permit(1, 3, 2, 2);
        x.share(0, good);
    }

    /** hire: if it is DUG already, or no PERMIT of it HOLDS today, when they are to dig. */
    static void hireDigsByAPermitOfToday() {
        refuses("no permit", RefusedTest::nothing, x -> x.hire(3, true));
        refuses("tomorrow", x -> x.permit(0, 3, 1, 9), x -> x.hire(3, true));
        refuses("another street", x -> x.permit(0, 4, 0, 9), x -> x.hire(3, true));
        refuses("dropped", x -> x.drop(x.permit(0, 3, 0, 9)), x -> x.hire(3, true));
        refuses("yesterday", RefusedTest::permittedYesterday, x -> x.hire(3, true));
        refuses("dug already", RefusedTest::dugByPermit, x -> x.hire(3, true));
        ahead("hire", RefusedTest::nothing, Edges.NO_THING, x -> x.hire(17, true));
    }

    private static void permittedYesterday(UtilityWorks x) {
        x.permit(0, 3, 0, 1);
        x.pass(1);
    }

    private static void dugByPermit(UtilityWorks x) {
        x.permit(0, 3, 0, 9);
        x.hire(3, true);
    }

    /** hire: if it is not DUG, when they are to fill. */
    static void hireFillsADugStreet() {
        refuses("not dug", x -> x.permit(0, 3, 0, 9), x -> x.hire(3, false));
        refuses("filled already", RefusedTest::filledAsphalt, x -> x.hire(3, false));
        UtilityWorks x = new UtilityWorks();
        Edges.dig(x, 3);
        Edges.due("to fill wants no permit", x.hire(3, false), 2000);
    }

    /** plant: if there are 4, or one stands there. */
    static void plantsAreAtMost4() {
        refuses("one stands there", RefusedTest::nothing, x -> x.plant(11, 1));
        refuses("one stands there, down", x -> x.start(0, false), x -> x.plant(0, 1));
        refuses("there are 4", RefusedTest::fourPlants, x -> x.plant(6, 1));
        ahead("plant", RefusedTest::nothing, Edges.NO_RANGE, x -> x.plant(11, 0));
        ahead("plant", RefusedTest::fourPlants, Edges.NO_RANGE, x -> x.plant(6, 301));
        ahead("plant", RefusedTest::fourPlants, Edges.NO_THING, x -> x.plant(12, 301));
    }

    private static void fourPlants(UtilityWorks x) {
        Edges.due("plant", x.plant(5, 1), 2);
        Edges.due("plant", x.plant(2, 1), 3);
    }

    /** well: if there are 3, or one stands there. */
    static void wellsAreAtMost3() {
        refuses("one stands there", RefusedTest::nothing, x -> x.well(8, 1, 1));
        refuses("one stands there, off", x -> x.pump(1, false), x -> x.well(5, 1, 1));
        refuses("there are 3", x -> x.well(0, 1, 1), x -> x.well(1, 1, 1));
        ahead("well", RefusedTest::nothing, Edges.NO_RANGE, x -> x.well(8, 100, 1));
        ahead("well", x -> x.well(0, 1, 1), Edges.NO_RANGE, x -> x.well(1, 1, -1));
        UtilityWorks x = new UtilityWorks();
        Edges.due("where a tank stands", x.well(3, 1, 0), 2);
    }

    /** tank: if there are 4, or one stands there. */
    static void tanksAreAtMost4() {
        Edges.Change all = x -> {
            for (int crossing = 0; crossing < 3; crossing++) {
                Edges.due("tank", x.tank(crossing, 9, 0), crossing + 1);
            }
        };
        refuses("one stands there", RefusedTest::nothing, x -> x.tank(3, 1, 1));
        refuses("there are 4", all, x -> x.tank(4, 1, 1));
        ahead("tank", RefusedTest::nothing, Edges.NO_RANGE, x -> x.tank(3, 1, 2));
        ahead("tank", all, Edges.NO_RANGE, x -> x.tank(4, 0, 0));
        UtilityWorks x = new UtilityWorks();
        all.to(x);
        Edges.due("three more", x.tankIs(3, 0), 2);
        UtilityWorks y = new UtilityWorks();
        Edges.due("where a well stands", y.tank(8, 1, 0), 1);
    }

    /** boiler: if there are 2, or one stands there. */
    static void boilersAreAtMost2() {
        refuses("one stands there", RefusedTest::nothing, x -> x.boiler(1, 10));
        refuses("one stands there, out", x -> x.light(0, false), x -> x.boiler(1, 10));
        refuses("there are 2", x -> x.boiler(0, 10), x -> x.boiler(2, 10));
        ahead("boiler", RefusedTest::nothing, Edges.NO_RANGE, x -> x.boiler(1, 9));
        ahead("boiler", x -> x.boiler(0, 10), Edges.NO_RANGE, x -> x.boiler(2, 301));
    }

    /** coal: if there would be more than 999 in it, or the STORES have not so much. */
    static void coalThatFitsAndIsThere() {
        refuses("not so much", RefusedTest::nothing, x -> x.coal(0, 201));
        refuses("too much in it", RefusedTest::fuelled, x -> x.coal(0, 800));
        ahead("coal", RefusedTest::nothing, Edges.NO_RANGE, x -> x.coal(0, 1000));
        ahead("coal", RefusedTest::fuelled, Edges.NO_RANGE, x -> x.coal(0, 0));
        UtilityWorks x = new UtilityWorks();
        Edges.due("all of the stores", x.coal(0, 200), 250);
        Edges.refused("nothing left", Edges.NO_STATE, () -> x.coal(0, 1));
        UtilityWorks y = made(RefusedTest::fuelled);
        Edges.due("what fits", y.coal(0, 799), 999);
    }

    /** The BUNKER has 200 and the STORES 999, as the BOILER is out. */
    private static void fuelled(UtilityWorks x) {
        x.light(0, false);
        x.coal(0, 150);
        for (int k = 0; k < 8; k++) {
            x.order(3, 99);
        }
        x.pass(6);
        for (int k = 0; k < 8; k++) {
            x.order(3, 99);
        }
        x.pass(6);
    }

    /** customer: if there are 10. */
    static void customersAreAtMost10() {
        Edges.Change all = x -> {
            for (int k = 6; k < 10; k++) {
                Edges.due("customer", x.customer(0, k), k);
            }
        };
        refuses("there are 10", all, x -> x.customer(0, 0));
        ahead("customer", all, Edges.NO_RANGE, x -> x.customer(0, 10));
        ahead("customer", all, Edges.NO_THING, x -> x.customer(12, 10));
    }

    /** unseal: if it is not SEALED; seal and slow: if it is SEALED (the document's words for seal and slow). */
    static void metersAreSealedOrNot() {
        refuses("unseal again", x -> x.unseal(2, 1), x -> x.unseal(2, 1));
        refuses("seal at first", RefusedTest::nothing, x -> x.seal(2, 1));
        refuses("seal again", RefusedTest::sealedAgain, x -> x.seal(2, 0));
        refuses("slow at first", RefusedTest::nothing, x -> x.slow(2, 1, 0));
        refuses("slow another one", x -> x.unseal(2, 1), x -> x.slow(2, 0, 5));
        refuses("slow sealed again", RefusedTest::sealedAgain, x -> x.slow(2, 0, 5));
        ahead("slow", RefusedTest::nothing, Edges.NO_RANGE, x -> x.slow(2, 1, 91));
        ahead("slow", RefusedTest::nothing, Edges.NO_THING, x -> x.slow(6, 1, 91));
    }

    private static void sealedAgain(UtilityWorks x) {
        x.unseal(2, 0);
        x.seal(2, 0);
    }

    /** split: if the CUSTOMER has a PLAN, or OWES less than parts. */
    static void splitWhatIsOwed() {
        refuses("owes nothing", RefusedTest::nothing, x -> x.split(0, 2));
        refuses("has credit", x -> x.pay(0, 9), x -> x.split(0, 2));
        refuses("has a plan", RefusedTest::planned, x -> x.split(5, 2));
        refuses("owes less", x -> owing(x, 5), x -> x.split(5, 6));
        ahead("split", RefusedTest::nothing, Edges.NO_RANGE, x -> x.split(0, 1));
        ahead("split", RefusedTest::planned, Edges.NO_RANGE, x -> x.split(5, 7));
        UtilityWorks x = made(y -> owing(y, 6));
        Edges.due("owes as much", x.split(5, 6), 1);
        UtilityWorks z = made(y -> owing(y, 2));
        Edges.due("owes as much", z.split(5, 2), 1);
    }

    private static void planned(UtilityWorks x) {
        x.pass(30);
        x.split(5, 3);
    }

    private static void owing(UtilityWorks x, int cents) {
        x.pass(30);
        x.pay(5, (int) x.owes(5) - cents);
        Edges.due("owes", x.owes(5), cents);
    }

    /** fund: if there is less MONEY. */
    static void fundFromTheMoney() {
        refuses("less money", x -> x.fund(60000), x -> x.fund(40001));
        refuses("no money", RefusedTest::funded, x -> x.fund(1));
        ahead("fund", x -> x.fund(60000), Edges.NO_RANGE, x -> x.fund(100000));
        UtilityWorks x = made(y -> y.fund(60000));
        Edges.due("all of it", x.fund(40000), 100000);
        Edges.due("money", x.journal(0), 0);
        UtilityWorks y = made(RefusedTest::funded);
        y.pass(1);
        Edges.due("below 0", y.journal(0), -200);
        Edges.refused("below 0", Edges.NO_STATE, () -> y.fund(1));
    }

    private static void funded(UtilityWorks x) {
        x.fund(99999);
        x.fund(1);
        Edges.due("money", x.journal(0), 0);
    }

    /** crew: if there are 4. */
    static void crewsAreAtMost4() {
        Edges.Change all = x -> {
            Edges.due("crew", x.crew(0, 1, 1), 2);
            Edges.due("crew", x.crew(2, 31, 4), 3);
        };
        refuses("there are 4", all, x -> x.crew(0, 1, 1));
        ahead("crew", all, Edges.NO_RANGE, x -> x.crew(0, 32, 1));
        ahead("crew", all, Edges.NO_RANGE, x -> x.crew(0, 1, 5));
        ahead("crew", all, Edges.NO_THING, x -> x.crew(12, 1, 5));
    }

    /** leave: if it has none. */
    static void leaveWantsAJob() {
        refuses("no job", RefusedTest::nothing, x -> x.leave(0));
        refuses("a job that waits", x -> x.job(0, 0, 3, 0), x -> x.leave(0));
        refuses("left already", x -> left(x), x -> x.leave(0));
    }

    private static void left(UtilityWorks x) {
        x.job(0, 0, 0, 0);
        x.pass(1);
        x.leave(0);
    }

    /** job: if 16 are not over. */
    static void jobsNotOverAreAtMost16() {
        Edges.Change all = x -> jobs(x, 16);
        refuses("16 wait", all, x -> x.job(4, 0, 0, 0));
        refuses("16 wait or are taken", x -> jobs(x, 16, 1), x -> x.job(4, 0, 0, 0));
        ahead("job", all, Edges.NO_RANGE, x -> x.job(4, 0, 0, 10));
        ahead("job", all, Edges.NO_THING, x -> x.job(4, 0, 6, 0));
        UtilityWorks x = made(all);
        Edges.due("one is dropped", x.dropJob(3), 15);
        Edges.due("one more", x.job(4, 0, 0, 0), 16);
        Edges.refused("16 again", Edges.NO_STATE, () -> x.job(4, 0, 0, 0));
        Edges.due("sound with 16", x.isSoundCrews(), true);
    }

    private static void jobs(UtilityWorks x, int many) {
        for (int k = 0; k < many; k++) {
            Edges.due("job", x.job(0, 0, 3, 0), k);
        }
    }

    private static void jobs(UtilityWorks x, int many, int days) {
        jobs(x, many);
        x.pass(days);
    }

    /** job: or there were 200. */
    static void jobsAreAtMost200() {
        Edges.Change all = x -> {
            for (int k = 0; k < 199; k++) {
                x.dropJob(x.job(0, 0, 3, 0));
            }
        };
        UtilityWorks x = made(all);
        Edges.due("the last one", x.job(0, 0, 3, 0), 199);
        Edges.due("it is there", x.jobIs(199, 4), 0);
        Edges.refused("one more", Edges.NO_STATE, () -> x.job(0, 0, 3, 0));
        Edges.refused("urgency first", Edges.NO_RANGE, () -> x.job(0, 0, 3, 10));
        Edges.due("drop it", x.dropJob(199), 0);
        Edges.refused("one more", Edges.NO_STATE, () -> x.job(0, 0, 3, 0));
        Edges.refused("there is none", Edges.NO_THING, () -> x.jobIs(200, 0));
        Edges.due("money", x.journal(0), 100000);
    }

    /** dropJob: if it is over. */
    static void dropNoJobThatIsOver() {
        refuses("dropped", x -> x.dropJob(x.job(0, 0, 3, 0)), x -> x.dropJob(0));
        refuses("done", x -> jobDone(x), x -> x.dropJob(0));
        ahead("dropJob", x -> jobDone(x), Edges.NO_THING, x -> x.dropJob(1));
        UtilityWorks x = new UtilityWorks();
        x.job(0, 0, 0, 0);
        x.pass(1);
        Edges.due("taken", x.jobIs(0, 4), 1);
        Edges.due("one that is taken", x.dropJob(0), 0);
    }

    private static void jobDone(UtilityWorks x) {
        x.job(4, 0, 0, 0);
        x.pass(1);
        Edges.due("done", x.jobIs(0, 4), 2);
    }

    /** order: if there are 8 that have not come. */
    static void ordersAreAtMost8() {
        Edges.Change all = x -> {
            for (int k = 0; k < 8; k++) {
                x.order(k % 4, 1);
            }
        };
        refuses("8 have not come", all, x -> x.order(3, 1));
        ahead("order", all, Edges.NO_RANGE, x -> x.order(3, 100));
        ahead("order", all, Edges.NO_THING, x -> x.order(4, 100));
        UtilityWorks x = made(all);
        x.pass(5);
        Edges.refused("not come yet", Edges.NO_STATE, () -> x.order(3, 1));
        x.pass(1);
        Edges.due("they have come", x.order(3, 1), 5);
    }

    /** order: or the MONEY is less than what it costs. */
    static void ordersArePaid() {
        int[] prices = {400, 250, 600, 5};
        for (int k = 0; k < 4; k++) {
            int part = k;
            int cost = 3 * prices[part];
            refuses("a cent too little", x -> leaving(x, cost - 1), x -> x.order(part, 3));
            UtilityWorks x = made(y -> leaving(y, cost));
            Edges.due("just enough", x.order(part, 3), cost);
            Edges.due("money", x.journal(0), 0);
        }
        ahead("order", x -> leaving(x, 4), Edges.NO_RANGE, x -> x.order(3, 0));
    }

    private static void leaving(UtilityWorks x, int money) {
        x.pay(0, 1);
        x.fund(99999);
        x.pay(0, 5000);
        x.fund(5002 - money);
        Edges.due("money", x.journal(0), money);
    }

    /** storm: if there are 4 that are not over. */
    static void stormsAreAtMost4() {
        Edges.Change all = x -> {
            for (int k = 0; k < 4; k++) {
                Edges.due("storm", x.storm(k % 3, 1), k);
            }
        };
        refuses("4 have not begun", all, x -> x.storm(0, 1));
        refuses("4 are not over", x -> made(x, all, 4), x -> x.storm(0, 1));
        ahead("storm", all, Edges.NO_RANGE, x -> x.storm(0, 10));
        ahead("storm", all, Edges.NO_RANGE, x -> x.storm(3, 1));
        UtilityWorks x = new UtilityWorks();
        made(x, all, 5);
        Edges.due("they are over", x.storm(0, 1), 0);
    }

    private static void made(UtilityWorks x, Edges.Change first, int days) {
        first.to(x);
        x.pass(days);
    }

    /** gain: if there is no LINK of that GOOD in it, or it is SOUND. */
    static void gainOfABrokenLink() {
        refuses("no link", RefusedTest::nothing, x -> x.gain(2, 2));
        refuses("sound", RefusedTest::nothing, x -> x.gain(2, 0));
        refuses("sound and off", x -> x.turn(2, 0, false), x -> x.gain(2, 0));
        ahead("gain", RefusedTest::nothing, Edges.NO_THING, x -> x.gain(3, 0));
        UtilityWorks x = new UtilityWorks();
        x.breaks(2, 0);
        Edges.due("a broken one", x.gain(2, 0), 1);
    }

    static void eachCallThatThrowsItIsTried() {
        List<String> tried = List.of("turn", "bound", "lay", "breaks", "pass", "bring", "surface", "permit", "share", "hire",
                "plant", "well", "tank", "boiler", "coal", "customer", "unseal", "slow", "seal", "split", "fund", "crew",
                "leave", "job", "dropJob", "order", "storm", "gain");
        for (java.lang.reflect.Method m : UtilityWorks.class.getMethods()) {
            boolean throwsIt = List.of(m.getExceptionTypes()).contains(IllegalStateException.class);
            Edges.due(m.getName() + " is tried", tried.contains(m.getName()), throwsIt);
        }
    }

    public static void main(String[] args) {
        Edges.runAll(RefusedTest.class);
    }
}
