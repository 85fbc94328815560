import java.util.Arrays;

/**
 * The promises of the document, one method each, with answers worked out by hand: ordinary inputs, the edges that the
 * document names, wrong inputs, and that nothing has changed where a call throws.
 */
public final class PromisesTest {
    private static final Class<? extends RuntimeException> NO_THING = IndexOutOfBoundsException.class;
    private static final Class<? extends RuntimeException> NO_RANGE = IllegalArgumentException.class;
    private static final Class<? extends RuntimeException> NO_STATE = IllegalStateException.class;

    private static int wrong;
    private static int promise;

    private interface Call {
        Object answer();
    }

    private static void due(String what, long got, long want) {
        if (got != want) {
            wrong++;
            System.out.println("promise " + promise + ": " + what + " answered " + got + ", due is " + want);
        }
    }

    private static void due(String what, boolean got, boolean want) {
        due(what, got ? 1 : 0, want ? 1 : 0);
    }

    private static void thrown(String what, Class<? extends RuntimeException> want, Call call) {
        String got;
        try {
            got = "answered " + call.answer();
        } catch (RuntimeException e) {
            if (e.getClass() == want) {
                return;
            }
            got = "threw " + e;
        }
        wrong++;
        System.out.println("promise " + promise + ": " + what + " " + got + ", due is " + want.getSimpleName());
    }

    /** Calls with each of these as its last int argument throw. */
    private static void thrownFor(String what, Class<? extends RuntimeException> want, Taking call, int... args) {
        for (int arg : args) {
            thrown(what + " with " + arg, want, () -> call.answer(arg));
        }
    }

    private interface Taking {
        Object answer(int arg);
    }

    private static void passDays(UtilityWorks x, int days) {
        for (int left = days; left > 0; left -= 60) {
            x.pass(Math.min(left, 60));
        }
    }

    private static void promise1() {
        UtilityWorks x = new UtilityWorks();
        due("NONE", UtilityWorks.NONE, -1);
        for (int c = 0; c < 12; c++) {
            due("height", x.height(c, 0), 10 * (2 - c / 4) + 5 * (c % 4));
        }
        int[][] links = {{0, 1, 2, 9, 10, 11, 12, 13, 14, 15, 16}, {0, 1, 2, 9, 10, 13, 14}, {0, 1, 9, 10}};
        int[] bounds = {60, 40, 30};
        for (int g = 0; g < 3; g++) {
            for (int s = 0; s < 17; s++) {
                boolean is = Arrays.binarySearch(links[g], s) >= 0;
                due("is a link", x.linkIs(g, s, 0), is ? 1 : 0);
                due("bound", x.linkIs(g, s, 1), is ? bounds[g] : 0);
                due("leads", x.linkIs(g, s, 4), is ? 1 : 0);
            }
        }
        for (int s = 0; s < 17; s++) {
            due("surface", x.streetIs(s, 2), s < 3 ? 1 : 0);
            due("dug", x.streetIs(s, 3), 0);
            due("markets", x.streetIs(s, 7), 0);
        }
        due("day", x.count(0), 0);
        due("money", x.journal(0), 100000);
        due("plants", x.plantIs(0, 0) + 100 * x.plantIs(0, 1) + 10000 * x.plantIs(1, 0) + 1000000 * x.plantIs(1, 1),
                30114000);
        due("wells", x.wellIs(0, 0) + 100 * x.wellIs(0, 1) + 10000 * x.wellIs(0, 2), 505008);
        due("wells", x.wellIs(1, 0) + 100 * x.wellIs(1, 1) + 10000 * x.wellIs(1, 2), 302005);
        due("tank", x.tankIs(0, 0) + 10 * x.tankIs(0, 1) + 10000 * x.tankIs(0, 2) + 10000000 * x.tankIs(0, 3),
                301502003);
        due("boiler", x.boilerIs(0, 0) + 10 * x.boilerIs(0, 1) + 10000 * x.boilerIs(0, 2), 500601);
        due("boiler lit, burned", x.boilerIs(0, 3) + x.boilerIs(0, 4), 2);
        int[][] customers = {{5, 0, 7, 12, 8, 10}, {1, 3, 7, 6, 4, 3}, {3, 5, 3, 5, 3, 0}, {4, 2, 7, 8, 5, 4},
            {9, 5, 3, 4, 3, 0}, {6, 4, 1, 7, 0, 0}};
        for (int k = 0; k < 6; k++) {
            for (int what = 0; what < 12; what++) {
                due("customerIs " + what, x.customerIs(k, what), what < 6 ? customers[k][what] : 0);
            }
            due("warmth", x.warmth(k), 18);
        }
        due("crew 0", x.crewIs(0, 0) + 100 * x.crewIs(0, 1) + 10000 * x.crewIs(0, 2), 21100);
        due("crew 1", x.crewIs(1, 0) + 100 * x.crewIs(1, 1) + 10000 * x.crewIs(1, 2), 32805);
        due("no job", x.crewIs(0, 3), -1);
        due("stores", x.storeIs(0, 0) + 10 * x.storeIs(1, 0) + 100 * x.storeIs(2, 0) + 1000 * x.storeIs(3, 0), 200244);
        due("weather", x.weatherIs(0) + 100 * x.weatherIs(1) + 1000 * x.weatherIs(2), 210);
        due("seed", x.weatherIs(4), 1);
        thrown("crew 2", NO_THING, () -> x.crewIs(2, 0));
        thrown("customer 6", NO_THING, () -> x.customerIs(6, 0));
    }

    private static void promise2() {
        UtilityWorks x = new UtilityWorks();
        thrown("linkIs", NO_THING, () -> x.linkIs(3, 0, 9));
        thrown("linkIs", NO_THING, () -> x.linkIs(0, 17, 9));
        thrownFor("linkIs", NO_RANGE, what -> x.linkIs(0, 0, what), -1, 5, Integer.MIN_VALUE, Integer.MAX_VALUE);
        due("turn", x.turn(1, 0, false), true);
        due("turn again", x.turn(1, 0, false), false);
        due("sound", x.linkIs(1, 0, 2), 1);
        due("on", x.linkIs(1, 0, 3), 0);
        due("leads", x.linkIs(1, 0, 4), 0);
        due("turn on", x.turn(1, 0, true), false);
        thrown("turn without a link", NO_STATE, () -> x.turn(2, 5, false));
        thrown("turn", NO_THING, () -> x.turn(-1, 5, false));
        due("bound", x.bound(0, 0, 999), 60);
        due("bound", x.bound(0, 0, 1), 999);
        thrown("bound", NO_THING, () -> x.bound(0, -1, 0));
        thrownFor("bound", NO_RANGE, bound -> x.bound(0, 3, bound), 0, 1000, -5);
        thrown("bound without a link", NO_STATE, () -> x.bound(0, 3, 5));
        due("bound stays", x.bound(0, 0, 60), 1);
        due("lay a line", x.lay(0, 3, 50), 12);
        due("its bound", x.linkIs(0, 3, 1), 50);
        due("sound", x.linkIs(0, 3, 2), 1);
        due("off", x.linkIs(0, 3, 3), 0);
        due("money of laying", x.journal(0), 97000);
        thrown("lay again", NO_STATE, () -> x.lay(0, 3, 50));
        thrown("a ring", NO_STATE, () -> x.turn(0, 3, true));
        due("still off", x.linkIs(0, 3, 3), 0);
        due("turn on what is on", x.turn(0, 10, true), true);
        x.turn(0, 10, false);
        due("no ring", x.turn(0, 3, true), false);
        thrown("a ring", NO_STATE, () -> x.turn(0, 10, true));
        x.breaks(0, 10);
        due("a broken line closes no ring", x.turn(0, 10, true), false);
        x.job(2, 0, 10, 9);
        x.pass(3);
        due("mended", x.linkIs(0, 10, 2), 1);
        due("off, as it would close one", x.linkIs(0, 10, 3), 0);
        x.breaks(0, 3);
        x.turn(0, 10, true);
        x.turn(0, 3, false);
        x.job(2, 0, 3, 9);
        x.pass(4);
        x.turn(0, 10, false);
        x.breaks(0, 10);
        x.turn(0, 10, true);
        x.job(2, 0, 10, 9);
        x.pass(4);
        due("on, as it closes none", x.linkIs(0, 10, 4), 1);
        due("money", x.journal(0), 97000 - x.spent(0));
        x.pay(0, (int) x.spent(0));
        thrown("lay a pipe undug", NO_STATE, () -> x.lay(1, 3, 10));
        thrown("lay", NO_RANGE, () -> x.lay(1, 3, 0));
        thrown("lay", NO_RANGE, () -> x.lay(1, 3, 1000));
        thrown("lay", NO_THING, () -> x.lay(1, 17, 1000));
        due("money stays", x.journal(0), 97000);
        x.permit(2, 3, x.count(0), 1);
        x.hire(3, true);
        due("lay a pipe", x.lay(1, 3, 10), 8);
        due("lay a main", x.lay(2, 3, 999), 5);
    }

    private static void promise3() {
        UtilityWorks x = new UtilityWorks();
        due("joined", x.joined(1, 8, 9), true);
        due("joined", x.joined(1, 0, 11), false);
        due("joined", x.joined(0, 0, 11), true);
        due("joined to itself", x.joined(2, 7, 7), true);
        due("breaks", x.breaks(1, 10), true);
        due("breaks again", x.breaks(1, 10), false);
        due("joined no more", x.joined(1, 8, 9), false);
        thrown("breaks", NO_STATE, () -> x.breaks(2, 5));
        thrown("breaks", NO_THING, () -> x.breaks(2, 17));
        thrown("joined", NO_THING, () -> x.joined(0, 0, 12));
        thrown("joined", NO_THING, () -> x.joined(0, -1, 0));
        thrown("joined", NO_THING, () -> x.joined(3, 0, 0));
        thrownFor("pass", NO_RANGE, x::pass, 0, 61, -1, Integer.MAX_VALUE);
        due("pass", x.pass(1), 1);
        due("pass", x.pass(60), 61);
        passDays(x, 900);
        thrown("pass beyond 999", NO_STATE, () -> x.pass(39));
        due("day", x.count(0), 961);
        due("pass to the end", x.pass(38), 999);
        thrown("pass beyond 999", NO_STATE, () -> x.pass(1));
        thrownFor("keep", NO_THING, x::keep, 2, -1);
        due("keep", x.keep(0), 999);
        due("sound", x.isSound(), true);
    }

    private static void promise4() {
        UtilityWorks x = new UtilityWorks();
        thrownFor("bring", NO_THING, x::bring, 2, -1);
        thrown("bring", NO_STATE, () -> x.bring(0));
        x.pass(7);
        due("keep", x.keep(1), 7);
        change(x);
        due("day", x.count(0), 13);
        due("bring", x.bring(1), 7);
        change(x);
        due("bring again", x.bring(1), 7);
        thrown("bring the other", NO_STATE, () -> x.bring(0));
        change(x);
        due("keep over it", x.keep(1), 13);
        x.pass(1);
        due("bring", x.bring(1), 13);
        int[] counts = {13, 12, 7, 4, 0, 1, 0, 1, 0, 2};
        for (int what = 0; what < counts.length; what++) {
            due("count " + what, x.count(what), counts[what]);
        }
        x.weather(10, 0, 6);
        x.pass(1);
        due("flooded", x.count(8), 3);
        thrownFor("count", NO_RANGE, x::count, -1, 10);
        due("sound", x.isSound(), true);
        due("height", x.height(11, 99), 15);
        due("height", x.height(11, 0), 99);
        thrown("height", NO_THING, () -> x.height(12, 100));
        thrownFor("height", NO_RANGE, height -> x.height(0, height), -1, 100);
        due("height stays", x.height(0, 0), 20);
    }

    private static void change(UtilityWorks x) {
        x.height(3, 4);
        x.surface(5, 2);
        x.market(6, 5);
        x.lay(0, 4, 33);
        x.breaks(1, 2);
        x.permit(0, 8, x.count(0), 9);
        x.share(x.permit(1, 7, x.count(0) + 9, 1), 0);
        x.hire(8, true);
        x.plant(5, 77);
        x.start(0, false);
        x.well(0, 3, 3);
        x.tank(0, 9, 1);
        x.pump(0, false);
        x.leak(0, 3);
        x.fire(3, 5);
        x.boiler(7, 100);
        x.coal(1, 9);
        x.light(0, false);
        x.customer(2, 2);
        x.need(6, 0, 9);
        x.connect(6, 0, true);
        x.unseal(0, 0);
        x.slow(0, 0, 50);
        x.tariff(0, 0, 1);
        x.pay(1, 700);
        x.poor(2, true);
        x.fund(800);
        x.crew(9, 4, 1);
        x.overtime(0, true);
        x.job(2, 1, 2, 3);
        x.order(0, 2);
        x.least(2, 9);
        x.storm(1, 3);
        x.alarm(true);
        x.pass(6);
    }

    private static void promise5() {
        UtilityWorks x = new UtilityWorks();
        due("surface", x.surface(0, 2), 1);
        thrown("surface", NO_THING, () -> x.surface(17, 3));
        thrownFor("surface", NO_RANGE, surface -> x.surface(0, surface), -1, 3);
        due("market", x.market(4, 127), 0);
        due("market", x.market(4, 1 << 3), 127);
        thrown("market", NO_THING, () -> x.market(-1, 128));
        thrownFor("market", NO_RANGE, days -> x.market(4, days), -1, 128);
        due("may", x.may(4, 0, 3), 0);
        due("may meets the market of day 3", x.may(4, 0, 4), 3);
        due("may meets the market of day 10", x.may(4, 8, 3), 3);
        due("may behind it", x.may(4, 4, 6), 0);
        due("far days", x.may(3, 9999, 9), 0);
        thrown("may", NO_THING, () -> x.may(17, -1, 0));
        thrown("may", NO_RANGE, () -> x.may(0, -1, 1));
        thrown("may", NO_RANGE, () -> x.may(0, 10000, 1));
        thrown("may", NO_RANGE, () -> x.may(0, 0, 0));
        thrown("may", NO_RANGE, () -> x.may(0, 0, 10));
        due("firstFree", x.firstFree(4, 3), 0);
        due("firstFree", x.firstFree(4, 4), 4);
        due("never so long", x.firstFree(4, 7), -1);
        thrown("firstFree", NO_THING, () -> x.firstFree(17, 0));
        thrownFor("firstFree", NO_RANGE, days -> x.firstFree(0, days), 0, 10);
        x.permit(0, 4, 4, 6);
        due("may meets a permit first", x.may(4, 0, 5), 2);
        due("may meets a permit", x.may(4, 9, 1), 2);
        due("may behind it", x.may(4, 11, 6), 0);
        x.permit(0, 0, 0, 1);
        x.hire(0, true);
        thrown("surface of a dug street", NO_STATE, () -> x.surface(0, 1));
        x.hire(0, false);
        due("filled today", x.may(0, 1, 1), 4);
        due("filled 19 days ahead", x.may(0, 19, 1), 4);
        due("filled 20 days ahead", x.may(0, 20, 1), 0);
        due("firstFree", x.firstFree(0, 1), 20);
        due("asphalt told later counts", x.surface(0, 0), 2);
        due("gravel", x.may(0, 1, 1), 0);
        x.weather(-1, 0, 0);
        due("frost and gravel", x.may(0, 1, 1), 0);
        due("frost and stones", x.may(1, 1, 1), 5);
        due("never in frost", x.firstFree(1, 1), -1);
        x.weather(0, 0, 0);
        due("no frost", x.may(1, 1, 1), 0);
        x.pass(2);
        due("behind us", x.may(1, 1, 1), 1);
        for (int from = 2; from < 63; from += 9) {
            x.permit(0, 1, from, 9);
        }
        due("up to 60 days", x.firstFree(1, 1), -1);
        x.pass(5);
        due("up to 60 days", x.firstFree(1, 1), 65);
    }

    private static void promise6() {
        UtilityWorks x = new UtilityWorks();
        due("permit", x.permit(1, 0, 2, 3), 0);
        due("its fee for stones", x.permitIs(0, 4), 3000);
        due("money", x.journal(0), 97000);
        due("permit on gravel", x.permit(2, 5, 0, 9), 1);
        due("its fee", x.permitIs(1, 4), 4500);
        int[] is = {1, 0, 2, 4, 3000, 0, 0};
        for (int what = 0; what < 7; what++) {
            due("permitIs " + what, x.permitIs(0, what), is[what]);
        }
        due("holds", x.permitIs(1, 6), 1);
        thrown("permitIs", NO_THING, () -> x.permitIs(2, 9));
        thrownFor("permitIs", NO_RANGE, what -> x.permitIs(0, what), -1, 7);
        due("share", x.share(0, 0), 1500);
        due("money", x.journal(0), 91000);
        due("shared", x.permitIs(0, 5), 1);
        thrown("share again", NO_STATE, () -> x.share(0, 0));
        thrown("share with itself", NO_STATE, () -> x.share(0, 1));
        thrown("share", NO_THING, () -> x.share(0, 3));
        thrown("share", NO_THING, () -> x.share(2, 0));
        thrown("permit", NO_THING, () -> x.permit(3, 0, -1, 0));
        thrown("permit", NO_RANGE, () -> x.permit(0, 0, 2, 10));
        thrown("permit", NO_RANGE, () -> x.permit(0, 0, 10000, 1));
        thrown("permit that may not be given", NO_STATE, () -> x.permit(0, 0, 4, 2));
        due("money stays", x.journal(0), 91000);
        due("drop ahead of its days", x.drop(0), 3);
        thrown("drop again", NO_THING, () -> x.drop(0));
        due("money stays", x.journal(0), 91000);
        x.pass(2);
        due("drop, today with them", x.drop(1), 7);
        due("the lowest number", x.permit(0, 3, 9999, 9), 0);
        for (int k = 1; k < 16; k++) {
            due("the lowest number", x.permit(0, 4, 10 * k, 9), k);
        }
        thrown("permit 16", NO_STATE, () -> x.permit(0, 5, 2, 1));
        due("permits", x.count(9), 16);
        x.drop(7);
        due("the lowest number", x.permit(0, 5, 2, 1), 7);
        x.pass(1);
        thrown("gone with its last day", NO_THING, () -> x.permitIs(7, 0));
        due("permits", x.count(9), 15);
    }

    private static void promise7() {
        UtilityWorks x = new UtilityWorks();
        thrown("hire without a permit", NO_STATE, () -> x.hire(10, true));
        x.permit(1, 10, 0, 3);
        due("holder", x.streetIs(10, 5), 0);
        due("hire", x.hire(10, true), 5000);
        due("dug", x.streetIs(10, 3), 1);
        due("money", x.journal(0), 100000 - 1500 - 5000);
        thrown("hire again", NO_STATE, () -> x.hire(10, true));
        thrown("hire", NO_THING, () -> x.hire(17, true));
        due("way round", x.way(1, 5), 3);
        int[] steps = {0, 9, 3, -1};
        for (int k = 0; k < 4; k++) {
            due("wayIs " + k, x.wayIs(1, 5, k), steps[k]);
        }
        due("way back", x.wayIs(5, 1, 0), 3);
        due("way to itself", x.way(5, 5), 0);
        due("no street to itself", x.wayIs(5, 5, 0), -1);
        thrown("way", NO_THING, () -> x.way(0, 12));
        thrown("wayIs", NO_THING, () -> x.wayIs(-1, 0, 12));
        thrownFor("wayIs", NO_RANGE, k -> x.wayIs(0, 0, k), -1, 12);
        due("the first way by crossings", x.wayIs(0, 11, 0), 0);
        due("and its end", x.wayIs(0, 11, 4), 16);
        due("fill", x.hire(10, false), 2000);
        due("filled on", x.streetIs(10, 6), 0);
        thrown("fill again", NO_STATE, () -> x.hire(10, false));
        due("way", x.way(1, 5), 1);
        x.hire(10, true);
        x.pass(3);
        due("no fine while it holds", x.streetIs(10, 8), 0);
        long money = x.journal(0);
        x.pass(2);
        due("fines", x.streetIs(10, 8), 2);
        due("fines and wages", money - x.journal(0), 2 * 1000 + 4 * 100);
        due("holder", x.streetIs(10, 5), -1);
        int[] ends = {1, 5, 0, 1, 0, -1, 0, 0, 2};
        for (int what = 0; what < 9; what++) {
            due("streetIs " + what, x.streetIs(10, what), ends[what]);
        }
        thrown("streetIs", NO_THING, () -> x.streetIs(17, 9));
        thrownFor("streetIs", NO_RANGE, what -> x.streetIs(0, what), -1, 9);
        x.weather(10, 0, 9);
        x.height(0, 17);
        x.height(1, 17);
        x.height(4, 18);
        x.pass(1);
        due("flooded", x.streetIs(0, 4), 1);
        due("not flooded", x.streetIs(9, 4), 0);
        due("no path", x.way(1, 0), 5);
        x.height(4, 0);
        x.pass(1);
        due("no path", x.way(1, 0), -1);
        due("no path", x.wayIs(1, 0, 0), -1);
    }

    private static void promise8() {
        UtilityWorks x = new UtilityWorks();
        due("sound", x.isSoundStreets(), true);
        due("plant", x.plant(5, 300), 2);
        due("up", x.plantIs(2, 2), 1);
        thrown("plant where one is", NO_STATE, () -> x.plant(5, 1));
        thrown("plant", NO_THING, () -> x.plant(12, 0));
        thrownFor("plant", NO_RANGE, capacity -> x.plant(6, capacity), 0, 301);
        due("plant", x.plant(6, 1), 3);
        thrown("plant 4", NO_STATE, () -> x.plant(7, 1));
        due("gives", x.plantIs(0, 3), 40);
        due("gives", x.plantIs(1, 3), 14);
        due("gives", x.plantIs(2, 3), 0);
        due("start", x.start(0, false), true);
        due("start again", x.start(0, false), false);
        due("gives", x.plantIs(0, 3), 0);
        due("gives", x.plantIs(1, 3), 30);
        due("gives", x.plantIs(2, 3), 24);
        due("down", x.plantIs(0, 2), 0);
        thrown("start", NO_THING, () -> x.start(4, true));
        thrown("plantIs", NO_THING, () -> x.plantIs(-1, 9));
        thrownFor("plantIs", NO_RANGE, what -> x.plantIs(0, what), -1, 4);
        x.permit(0, 3, 0, 2);
        x.permit(0, 3, 2, 2);
        x.hire(3, true);
        due("sound", x.isSoundStreets(), true);
    }

    private static void promise9() {
        UtilityWorks x = new UtilityWorks();
        int[] flows = {27, -2, -9, 0, 0, 0, 0, 0, 0, 13, 18, 7, -14, 5, 4, 0, -14};
        for (int s = 0; s < 17; s++) {
            if (x.linkIs(0, s, 0) == 1) {
                due("flow " + s, x.lineIs(s, 0), flows[s]);
                due("flow anew " + s, x.flowAnew(s), flows[s]);
            }
        }
        due("needs", x.powerAt(1, 0), 11);
        due("gets", x.powerAt(1, 1), 11);
        due("island", x.powerAt(7, 2), 0);
        due("capacity", x.powerAt(7, 3), 70);
        due("all need", x.powerAt(7, 4), 54);
        thrown("powerAt", NO_THING, () -> x.powerAt(12, 5));
        thrownFor("powerAt", NO_RANGE, what -> x.powerAt(0, what), -1, 5);
        x.bound(0, 0, 24);
        due("it would trip", x.lineIs(0, 1), 0);
        due("flow", x.lineIs(0, 0), 0);
        due("flow anew", x.flowAnew(0), 0);
        due("not tripped yet", x.lineIs(0, 2), 0);
        due("joined still", x.joined(0, 0, 1), true);
        due("island behind all trips", x.powerAt(5, 2), 1);
        due("capacity of it", x.powerAt(5, 3), 30);
        due("needs of it", x.powerAt(5, 4), 41);
        due("shed by rank, small ones still fed", x.shed(2), 48);
        due("shed wells", x.shed(0), 0);
        due("gives", x.plantIs(0, 3), 13);
        x.start(1, false);
        due("shed wells", x.shed(0), 2);
        due("shed boilers", x.shed(1), 1);
        due("shed customers", x.shed(2), 55);
        due("gets", x.powerAt(5, 1), 0);
        due("needs", x.powerAt(5, 0), 14);
        x.start(1, true);
        thrownFor("shed", NO_RANGE, x::shed, -1, 3);
        x.pass(1);
        due("tripped", x.lineIs(0, 2), 1);
        due("off", x.linkIs(0, 0, 3), 0);
        due("closes no ring", x.lineIs(0, 3), 0);
        x.turn(0, 0, true);
        due("tripped no more", x.lineIs(0, 2), 0);
        x.lay(0, 3, 5);
        due("would close a ring", x.lineIs(3, 3), 1);
        due("0 if it leads", x.lineIs(9, 3), 0);
        thrown("lineIs", NO_THING, () -> x.lineIs(4, 9));
        thrown("lineIs", NO_THING, () -> x.lineIs(17, 0));
        thrownFor("lineIs", NO_RANGE, what -> x.lineIs(0, what), -1, 4);
        thrownFor("flowAnew", NO_THING, x::flowAnew, -1, 4, 17);
    }

    private static void promise10() {
        UtilityWorks x = new UtilityWorks();
        x.bound(0, 0, 26);
        x.bound(0, 9, 12);
        x.pass(1);
        due("both trip", x.powerSum(4), 2);
        due("plants gave", x.powerSum(0), 30);
        due("wells got", x.powerSum(1), 2);
        due("boilers got", x.powerSum(2), 5);
        due("customers got", x.powerSum(3), 23);
        due("dark days", x.powerSum(5), 3);
        due("dark", x.dark(3) + x.dark(4) + x.dark(5), 3);
        due("not dark", x.dark(0), 0);
        due("sound", x.isSoundPower(), true);
        thrownFor("powerSum", NO_RANGE, x::powerSum, -1, 6);
        thrownFor("dark", NO_THING, x::dark, -1, 6);
        thrownFor("switching", NO_RANGE, x::switching, -1, 2);
        x.bound(0, 0, 60);
        x.bound(0, 9, 60);
        due("worth", x.switching(0), 42);
        due("both are needed", x.switching(1), 1 + 512);
        due("nothing changes", x.linkIs(0, 0, 3) + x.linkIs(0, 9, 3), 0);
        x.turn(0, 0, true);
        due("one is enough", x.switching(1), 512);
        x.turn(0, 9, true);
        due("none is needed", x.switching(1), 0);
        x.lay(0, 3, 1);
        due("no ring", x.switching(1), 0);
        x.turn(0, 9, false);
        due("the better one", x.switching(1), 512);
        x.bound(0, 3, 60);
        due("the lesser one of two as good", x.switching(1), 8);
        UtilityWorks y = new UtilityWorks();
        for (int s = 11; s < 17; s++) {
            y.turn(0, s, false);
        }
        due("the first five alone", y.switching(1) & 1 << 16, 0);
    }

    private static void promise11() {
        UtilityWorks x = new UtilityWorks();
        due("well", x.well(0, 99, 99), 2);
        due("on", x.wellIs(2, 3), 1);
        thrown("well 3", NO_STATE, () -> x.well(1, 1, 0));
        UtilityWorks y = new UtilityWorks();
        thrown("well where one is", NO_STATE, () -> y.well(8, 1, 0));
        thrown("well", NO_THING, () -> y.well(12, 0, 0));
        thrown("well", NO_RANGE, () -> y.well(8, 0, 0));
        thrown("well", NO_RANGE, () -> y.well(8, 100, 0));
        thrownFor("well", NO_RANGE, lift -> y.well(8, 1, lift), -1, 100);
        due("tank", y.tank(0, 999, 999), 1);
        due("level", y.tankIs(1, 2), 0);
        thrown("tank where one is", NO_STATE, () -> y.tank(0, 1, 0));
        thrown("tank", NO_THING, () -> y.tank(-1, 0, 0));
        thrown("tank", NO_RANGE, () -> y.tank(1, 0, 0));
        thrown("tank", NO_RANGE, () -> y.tank(1, 1000, 0));
        thrownFor("tank", NO_RANGE, reserve -> y.tank(1, 10, reserve), -1, 11);
        y.tank(1, 1, 1);
        due("tank", y.tank(2, 1, 0), 3);
        thrown("tank 4", NO_STATE, () -> y.tank(4, 1, 0));
        due("pump", y.pump(0, false), true);
        due("pump again", y.pump(0, false), false);
        due("it does not run", y.wellIs(0, 4), 0);
        due("nor need power", y.powerAt(8, 0), 0);
        thrown("pump", NO_THING, () -> y.pump(2, true));
        due("reserve", y.reserve(0, 200), 30);
        due("it gives nothing below that", y.waterAt(3, 1), 0);
        due("its level then", y.tankIs(0, 5), 150);
        due("reserve", y.reserve(0, 148), 200);
        due("it gives what is above that", y.waterAt(3, 1), 2);
        thrown("reserve", NO_THING, () -> y.reserve(4, -1));
        thrownFor("reserve", NO_RANGE, reserve -> y.reserve(0, reserve), -1, 201);
    }

    private static void promise12() {
        UtilityWorks x = new UtilityWorks();
        int[] well = {8, 50, 50, 1, 1, 40, 50};
        for (int what = 0; what < 7; what++) {
            due("wellIs " + what, x.wellIs(0, what), well[what]);
        }
        int[] tank = {3, 200, 150, 30, 50, 181};
        for (int what = 0; what < 6; what++) {
            due("tankIs " + what, x.tankIs(0, what), tank[what]);
        }
        int[][] pipes = {{0, 0, 35, 0, 5, 0}, {0, 0, 35, 1, 4, 0}, {0, 0, 35, 1, 4, 0}};
        for (int s = 0; s < 3; s++) {
            for (int what = 0; what < 6; what++) {
                due("pipeIs " + s + " " + what, x.pipeIs(s, what), pipes[s][what]);
            }
        }
        due("up the column", x.pipeIs(13, 3), 40);
        due("room", x.pipeIs(13, 4), 0);
        due("leak", x.leak(9, 9), 0);
        due("leak", x.pipeIs(9, 0), 9);
        due("at the lower number", x.waterAt(0, 0), 9);
        thrown("leak", NO_THING, () -> x.leak(3, 10));
        thrownFor("leak", NO_RANGE, leak -> x.leak(9, leak), -1, 10);
        x.breaks(1, 9);
        due("a hole", x.pipeIs(9, 5), 1);
        due("at the lower end", x.waterAt(4, 0), 25);
        due("a broken pipe does not leak", x.waterAt(0, 0), 0);
        x.height(0, 10);
        due("of two alike the lower number", x.waterAt(0, 0), 20);
        x.turn(1, 9, false);
        due("no hole when off", x.pipeIs(9, 5), 0);
        due("its room is its bound", x.pipeIs(9, 4), 40);
        thrown("wellIs", NO_THING, () -> x.wellIs(2, 9));
        thrownFor("wellIs", NO_RANGE, what -> x.wellIs(0, what), -1, 7);
        thrown("tankIs", NO_THING, () -> x.tankIs(1, 9));
        thrownFor("tankIs", NO_RANGE, what -> x.tankIs(0, what), -1, 6);
        thrown("pipeIs", NO_THING, () -> x.pipeIs(11, 9));
        thrownFor("pipeIs", NO_RANGE, what -> x.pipeIs(0, what), -1, 6);
        UtilityWorks y = new UtilityWorks();
        y.weather(-20, 0, 0);
        y.turn(1, 14, false);
        y.pass(1);
        due("strain with water", y.pipeIs(0, 1), 10);
        due("strain without", y.pipeIs(14, 1), 20);
        y.pass(4);
        due("broken by the cold", y.linkIs(1, 14, 2), 0);
        due("its strain", y.pipeIs(14, 1), 0);
        due("not yet", y.pipeIs(0, 1), 50);
        due("report", y.report(1), 1);
        y.weather(0, 0, 0);
        y.pass(1);
        due("less strain", y.pipeIs(0, 1), 45);
        y.pass(10);
        due("at least 0", y.pipeIs(0, 1), 0);
    }

    private static void promise13() {
        UtilityWorks x = new UtilityWorks();
        int[] wants = {0, 10, 0, 3, 5, 8, 0, 0, 0, 3, 0, 0};
        for (int c = 0; c < 12; c++) {
            due("wants", x.waterAt(c, 0), wants[c]);
            due("gets", x.waterAt(c, 1), wants[c]);
            due("gets anew", x.waterAnew(c), wants[c]);
        }
        due("to a boiler", x.waterAt(1, 3), 6);
        due("to customers", x.waterAt(1, 4), 4);
        due("runs out", x.waterAt(1, 2), 0);
        thrown("waterAt", NO_THING, () -> x.waterAt(12, 6));
        thrownFor("waterAt", NO_RANGE, what -> x.waterAt(0, what), -1, 6);
        thrownFor("waterAnew", NO_THING, x::waterAnew, -1, 12);
        due("waterWithout", x.waterWithout(10), 0);
        due("waterWithout", x.waterWithout(14), 512);
        thrownFor("waterWithout", NO_THING, x::waterWithout, -1, 3, 17);
        x.pump(1, false);
        x.pump(0, false);
        x.reserve(0, 200);
        due("nothing", x.waterAt(5, 1), 0);
        x.pass(2);
        due("short", x.waterAt(5, 5), 2);
        due("not short", x.waterAt(6, 5), 0);
        due("fire", x.fire(3, 100), 100);
        due("its level", x.tankIs(0, 2), 50);
        due("through pipes", x.fire(9, 500), 40);
        due("too high", x.height(2, 37), 30);
        due("no way", x.fire(9, 500), 0);
        due("the rest", x.fire(3, 500), 10);
        due("sum of fires", x.waterSum(5), 150);
        thrown("fire", NO_THING, () -> x.fire(12, 0));
        thrownFor("fire", NO_RANGE, amount -> x.fire(0, amount), 0, 501);
        x.pump(1, true);
        x.pass(1);
        due("short no more", x.waterAt(5, 5), 0);
        due("short still", x.waterAt(4, 5), 3);
        due("sound", x.isSoundWater(), true);
        UtilityWorks y = new UtilityWorks();
        y.breaks(1, 10);
        due("the hole of its end", y.waterAt(5, 0), 28);
        due("runs out first", y.waterAt(5, 2), 20);
        due("customers have the rest", y.waterAt(5, 4), 0);
        due("without the hole", y.waterWithout(10), 1 << 5);
    }

    private static void promise14() {
        UtilityWorks x = new UtilityWorks();
        x.leak(13, 2);
        x.breaks(1, 10);
        x.pass(1);
        long[] sums = {57, 12, 6, 2, 20, 0, 167};
        for (int what = 0; what < 7; what++) {
            due("waterSum " + what, x.waterSum(what), sums[what]);
        }
        thrownFor("waterSum", NO_RANGE, x::waterSum, -1, 7);
        due("sound", x.isSoundWater(), true);
        thrown("boiler where one is", NO_STATE, () -> x.boiler(1, 10));
        thrown("boiler", NO_THING, () -> x.boiler(12, 9));
        thrownFor("boiler", NO_RANGE, capacity -> x.boiler(2, capacity), 9, 301);
        due("boiler", x.boiler(2, 300), 1);
        due("empty, not lit, not burned", x.boilerIs(1, 2) + x.boilerIs(1, 3) + x.boilerIs(1, 4), 0);
        thrown("boiler 2", NO_STATE, () -> x.boiler(3, 10));
        due("coal", x.coal(1, 150), 150);
        due("stock", x.storeIs(3, 0), 50);
        due("taken", x.storeIs(3, 4), 150);
        thrown("coal", NO_THING, () -> x.coal(2, 0));
        thrownFor("coal", NO_RANGE, fuel -> x.coal(1, fuel), 0, 1000);
        thrown("too little in the stores", NO_STATE, () -> x.coal(1, 51));
        due("coal", x.coal(1, 50), 200);
        for (int k = 0; k < 8; k++) {
            x.order(3, 99);
        }
        x.pass(5);
        x.pass(1);
        due("stock", x.storeIs(3, 0), 792);
        thrown("too much in the bunker", NO_STATE, () -> x.coal(1, 800));
        x.coal(1, 792);
        for (int k = 0; k < 2; k++) {
            x.order(3, 4);
        }
        x.pass(6);
        thrown("too much in the bunker", NO_STATE, () -> x.coal(1, 8));
        due("full", x.coal(1, 7), 999);
    }

    private static void promise15() {
        UtilityWorks x = new UtilityWorks();
        int[] is = {1, 60, 50, 1, 1, 0, 60, 16, 2};
        for (int what = 0; what < 9; what++) {
            due("boilerIs " + what, x.boilerIs(0, what), is[what]);
        }
        int[][] mains = {{0, 5, 1, 25}, {0, 0, 0, 30}};
        for (int what = 0; what < 4; what++) {
            due("mainIs 0", x.mainIs(0, what), mains[0][what]);
            due("mainIs 1", x.mainIs(1, what), mains[1][what]);
        }
        due("mainIs 9", x.mainIs(9, 0), 4);
        due("mainIs 10", x.mainIs(10, 0), 9);
        due("wants", x.heatAt(5, 0) + 10 * x.heatAt(1, 0) + 100 * x.heatAt(4, 0), 328);
        due("gets", x.heatAt(5, 1) + 10 * x.heatAt(1, 1) + 100 * x.heatAt(4, 1), 328);
        due("less than wanted", x.heatAt(5, 2), 0);
        x.bound(2, 10, 8);
        due("the most that can be sent", x.mainIs(10, 0), 8);
        due("what comes out", x.heatAt(5, 1), 7);
        due("less than wanted", x.heatAt(5, 2), 1);
        x.bound(2, 10, 1);
        due("nothing comes out", x.mainIs(10, 0), 0);
        thrown("boilerIs", NO_THING, () -> x.boilerIs(1, 9));
        thrownFor("boilerIs", NO_RANGE, what -> x.boilerIs(0, what), -1, 9);
        thrown("mainIs", NO_THING, () -> x.mainIs(2, 9));
        thrownFor("mainIs", NO_RANGE, what -> x.mainIs(0, what), -1, 4);
        thrown("heatAt", NO_THING, () -> x.heatAt(12, 3));
        thrownFor("heatAt", NO_RANGE, what -> x.heatAt(0, what), -1, 3);
        x.weather(-20, 0, 0);
        x.bound(2, 10, 30);
        due("wants in the cold", x.heatAt(5, 0), 38);
        due("the most that can be sent", x.mainIs(10, 0), 30);
        due("two more are lost", x.mainIs(10, 2), 5);
        due("light", x.light(0, false), true);
        due("not lit", x.boilerIs(0, 5), 1);
        due("it can make", x.boilerIs(0, 6), 0);
        due("light", x.light(0, true), false);
        x.start(0, false);
        x.start(1, false);
        due("no power", x.boilerIs(0, 5), 2);
        x.start(0, true);
        x.start(1, true);
        x.pump(0, false);
        x.pump(1, false);
        x.reserve(0, 200);
        due("no water", x.boilerIs(0, 5), 3);
        x.pass(1);
        due("it is out", x.boilerIs(0, 3), 0);
        due("it did not burn", x.boilerIs(0, 4), 0);
        x.pump(0, true);
        x.pump(1, true);
        x.light(0, true);
        due("half of it", x.boilerIs(0, 6), 30);
        x.weather(10, 0, 0);
        x.pass(1);
        due("all of it", x.boilerIs(0, 6), 60);
        passDays(x, 23);
        due("10 times its fuel", x.boilerIs(0, 6), 20);
        x.pass(1);
        due("no fuel", x.boilerIs(0, 5), 4);
        thrown("light", NO_THING, () -> x.light(1, true));
        twoBoilers();
    }

    /** Two BOILERS: the nearer one first, then the other for what is wanted yet. */
    private static void twoBoilers() {
        UtilityWorks x = new UtilityWorks();
        x.boiler(0, 100);
        x.coal(1, 100);
        x.light(1, true);
        x.bound(2, 9, 2);
        x.customer(0, 9);
        x.need(6, 2, 10);
        x.connect(6, 2, true);
        due("its own boiler first", x.heatAt(0, 1), 8);
        due("half of its capacity", x.boilerIs(1, 6), 50);
        due("by the narrow main", x.heatAt(4, 1), 1);
        due("it makes for two crossings", x.boilerIs(1, 7), 10);
        x.bound(2, 9, 30);
        x.bound(2, 10, 30);
        x.need(0, 2, 20);
        x.need(3, 2, 20);
        x.weather(-12, 0, 0);
        due("wants", x.heatAt(5, 0), 60);
        due("the nearer one sends all the main takes", x.mainIs(10, 0), 30);
        due("nothing more for it", x.heatAt(5, 1), 26);
        due("both along the other main", x.mainIs(9, 0), 20 + 10);
        due("by the further one through two", x.mainIs(0, 1), 13);
        due("what comes there", x.heatAt(4, 1), 17 + 8);
        due("what the nearer one makes", x.boilerIs(0, 7), 9 + 30 + 13);
        due("what is left of half its capacity", x.boilerIs(1, 7), 50);
    }

    private static void promise16() {
        UtilityWorks x = new UtilityWorks();
        due("lasts", x.lasts(0), 25);
        due("lost", x.lostAnew(), 3);
        due("heatWithout", x.heatWithout(0), 1 << 4);
        due("heatWithout", x.heatWithout(10), 1 << 5);
        due("heatWithout", x.heatWithout(1), 0);
        due("nothing changes", x.linkIs(2, 10, 3), 1);
        thrownFor("heatWithout", NO_THING, x::heatWithout, -1, 2, 17);
        thrownFor("lasts", NO_THING, x::lasts, -1, 1);
        thrownFor("warmth", NO_THING, x::warmth, -1, 6);
        x.weather(18, 0, 0);
        due("it burns none", x.lasts(0), 999);
        due("nothing lost", x.lostAnew(), 0);
        x.weather(-12, 0, 0);
        x.light(0, false);
        due("it does not burn", x.lasts(0), 0);
        int[] warm = {10, 4, 0, -3, -6, -8, -9, -10, -11, -12, -12};
        for (int k = 0; k < warm.length; k++) {
            x.pass(1);
            due("warmth behind " + k, x.warmth(0), warm[k]);
        }
        due("not of one without heat", x.warmth(2), 18);
        due("chilled", x.heatSum(4), 30);
        x.weather(18, 0, 0);
        x.pass(1);
        due("warmer", x.warmth(0), -10);
        x.pass(15);
        due("18 at most", x.warmth(0), 18);
        due("chilled while below 8", x.report(4), 30 + 3 * 9);
    }

    private static void promise17() {
        UtilityWorks x = new UtilityWorks();
        x.pass(2);
        long[] sums = {32, 26, 6, 4, 0};
        for (int what = 0; what < 5; what++) {
            due("heatSum " + what, x.heatSum(what), sums[what]);
        }
        thrownFor("heatSum", NO_RANGE, x::heatSum, -1, 5);
        due("sound", x.isSoundHeat(), true);
        due("customer", x.customer(11, 9), 6);
        due("connected to nothing", x.customerIs(6, 2), 0);
        due("rank", x.customerIs(6, 1), 9);
        thrown("customer", NO_THING, () -> x.customer(12, 10));
        thrownFor("customer", NO_RANGE, rank -> x.customer(0, rank), -1, 10);
        due("need", x.need(6, 2, 20), 0);
        due("need", x.need(6, 2, 5), 20);
        thrown("need", NO_THING, () -> x.need(7, 0, 21));
        thrown("need", NO_THING, () -> x.need(0, 3, 21));
        thrownFor("need", NO_RANGE, need -> x.need(0, 0, need), -1, 21);
        x.customer(0, 0);
        x.customer(0, 0);
        due("customer", x.customer(0, 0), 9);
        thrown("customer 10", NO_STATE, () -> x.customer(0, 0));
    }

    private static void promise18() {
        UtilityWorks x = new UtilityWorks();
        due("connect", x.connect(5, 1, true), false);
        due("connect again", x.connect(5, 1, true), true);
        due("connected", x.customerIs(5, 2), 3);
        due("disconnect", x.connect(5, 0, false), true);
        due("connected", x.customerIs(5, 2), 2);
        thrown("connect", NO_THING, () -> x.connect(6, 0, true));
        thrown("connect", NO_THING, () -> x.connect(0, 3, true));
        x.turn(0, 10, false);
        x.pass(3);
        int[] is = {5, 0, 7, 12, 8, 10, 0, 8, 8, 3, 0, 0};
        for (int what = 0; what < 12; what++) {
            due("customerIs " + what, x.customerIs(0, what), is[what]);
        }
        thrown("customerIs", NO_THING, () -> x.customerIs(-1, 12));
        thrownFor("customerIs", NO_RANGE, what -> x.customerIs(0, what), -1, 12);
        int[] meter = {24, 0, 1, 0, -1, 0, 0, 8, 24};
        for (int what = 0; what < 9; what++) {
            due("meterIs " + what, x.meterIs(0, 1, what), meter[what]);
        }
        thrown("meterIs", NO_THING, () -> x.meterIs(0, 3, 9));
        thrownFor("meterIs", NO_RANGE, what -> x.meterIs(0, 0, what), -1, 9);
        due("unseal", x.unseal(0, 1), 24);
        due("not sealed", x.meterIs(0, 1, 2), 0);
        thrown("unseal again", NO_STATE, () -> x.unseal(0, 1));
        thrown("unseal", NO_THING, () -> x.unseal(0, -1));
    }

    private static void promise19() {
        UtilityWorks x = new UtilityWorks();
        thrown("slow while sealed", NO_STATE, () -> x.slow(0, 0, 50));
        thrown("slow", NO_RANGE, () -> x.slow(0, 0, 91));
        thrown("slow", NO_THING, () -> x.slow(0, 3, 91));
        thrown("seal while sealed", NO_STATE, () -> x.seal(0, 0));
        x.unseal(0, 0);
        due("slow", x.slow(0, 0, 45), 0);
        thrownFor("slow", NO_RANGE, slow -> x.slow(0, 0, slow), -1, 91);
        x.pass(1);
        due("6.6 turned", x.meterIs(0, 0, 0), 6);
        x.pass(1);
        due("13.2 turned", x.meterIs(0, 0, 0), 13);
        x.pass(3);
        due("33 turned", x.meterIs(0, 0, 8), 33);
        due("seal", x.seal(0, 0), 45);
        due("slow no more", x.meterIs(0, 0, 1), 0);
        thrown("seal", NO_THING, () -> x.seal(6, 0));
        due("read", x.read(0, 0), 33);
        due("counted", x.meterIs(0, 0, 3), 33);
        due("rate", x.meterIs(0, 0, 7), 6);
        due("read today", x.meterIs(0, 0, 4), 5);
        due("right", x.meterIs(0, 0, 5), 1);
        due("read again", x.read(0, 0), 0);
        due("rate without days", x.meterIs(0, 0, 7), 12);
        x.pass(2);
        due("read", x.read(0, 0), 24);
        due("counted", x.meterIs(0, 0, 3), 57);
        due("rate", x.meterIs(0, 0, 7), 12);
        x.pass(3);
        due("estimate", x.estimate(0, 0), 36);
        due("counted", x.meterIs(0, 0, 3), 93);
        due("not right", x.meterIs(0, 0, 5), 0);
        due("estimate again", x.estimate(0, 0), 0);
        due("shown stays", x.meterIs(0, 0, 6), 24);
        x.connect(0, 0, false);
        x.pass(1);
        x.estimate(0, 0);
        due("counted too much", x.meterIs(0, 0, 3), 105);
        due("read", x.read(0, 0), 36);
        due("counted right", x.meterIs(0, 0, 3), 93);
        thrown("read", NO_THING, () -> x.read(6, 0));
        thrown("estimate", NO_THING, () -> x.estimate(0, 3));
        UtilityWorks z = new UtilityWorks();
        z.need(0, 0, 20);
        passDays(z, 499);
        due("read", z.read(0, 0), 9980);
        passDays(z, 1);
        due("0 behind 9999", z.meterIs(0, 0, 0), 0);
        due("turned", z.meterIs(0, 0, 8), 10000);
        passDays(z, 1);
        due("read going on", z.read(0, 0), 40);
        due("counted", z.meterIs(0, 0, 3), 10020);
        UtilityWorks y = new UtilityWorks();
        y.pass(4);
        y.customer(0, 0);
        y.need(6, 1, 7);
        y.pass(2);
        due("since it was told", y.estimate(6, 1), 14);
    }

    private static void promise20() {
        UtilityWorks x = new UtilityWorks();
        due("nobody", x.suspect(0), -1);
        x.unseal(1, 0);
        x.slow(1, 0, 50);
        x.unseal(4, 0);
        x.slow(4, 0, 75);
        x.pass(4);
        due("loss", x.loss(0), 24);
        due("suspect, of like ones the lowest", x.suspect(0), 1);
        x.slow(1, 0, 0);
        x.pass(1);
        due("suspect", x.suspect(0), 4);
        due("loss of water", x.loss(1), 0);
        thrownFor("loss", NO_THING, x::loss, -1, 3);
        thrownFor("suspect", NO_THING, x::suspect, -1, 3);
        due("sound", x.isSoundMeters(), true);
        due("base", x.tariff(0, 0, 9999), 300);
        due("base", x.tariff(0, 0, 0), 9999);
        due("price", x.tariff(1, 1, 999), 10);
        due("step", x.tariff(2, 2, 999), 80);
        due("dear", x.tariff(2, 3, 999), 40);
        thrown("tariff", NO_THING, () -> x.tariff(3, 0, -1));
        thrownFor("tariff", NO_RANGE, what -> x.tariff(0, what, 0), -1, 4);
        thrownFor("tariff", NO_RANGE, v -> x.tariff(0, 0, v), -1, 10000);
        thrownFor("tariff", NO_RANGE, v -> x.tariff(0, 1, v), -1, 1000);
        thrownFor("tariff", NO_RANGE, v -> x.tariff(0, 3, v), -1, 1000);
        UtilityWorks y = new UtilityWorks();
        y.turn(2, 10, false);
        y.pass(1);
        due("the gap of one who gets nothing", y.suspect(2), 0);
        due("nothing is lost", y.loss(2), 0);
    }

    private static void promise21() {
        UtilityWorks x = new UtilityWorks();
        due("owes", x.owes(0), 0);
        thrown("split without debts", NO_STATE, () -> x.split(0, 2));
        due("pay ahead", x.pay(0, 99999), -99999);
        due("money", x.journal(0), 199999);
        thrown("pay", NO_THING, () -> x.pay(6, 0));
        thrownFor("pay", NO_RANGE, cents -> x.pay(0, cents), 0, 100000);
        thrownFor("owes", NO_THING, x::owes, -1, 6);
        passDays(x, 30);
        due("credit paid", x.owes(0), x.billIs(0, 0, 6) - 99999);
        due("nothing open", x.billIs(0, 0, 7), 0);
        long owed = x.owes(5);
        due("a bill of power alone", owed, 300 + 100 * 20 + (29 * 7 - 100) * 30);
        thrown("split", NO_THING, () -> x.split(6, 0));
        thrownFor("split", NO_RANGE, parts -> x.split(5, parts), 1, 7);
        due("split", x.split(5, 6), owed - 5 * (owed / 6));
        thrown("split again", NO_STATE, () -> x.split(5, 2));
        due("instalments", x.planIs(5, 0), 6);
        due("due", x.planIs(5, 1), 40);
        due("paid in", x.planIs(5, 2), 0);
        x.pay(5, 1);
        due("paid in", x.planIs(5, 2), 1);
        x.pass(10);
        due("due today", x.planIs(5, 1), 40);
        due("not failed yet", x.planIs(5, 3), 0);
        x.pass(1);
        due("failed", x.planIs(5, 3), 1);
        due("ended", x.planIs(5, 0), 0);
        due("no due day", x.planIs(5, 1), -1);
        due("nothing paid in", x.planIs(5, 2), 0);
        x.split(5, 2);
        x.pass(1);
        x.pay(5, (int) (owed - 1) / 2 + 1);
        x.pass(10);
        due("the next one", x.planIs(5, 1), 61);
        x.pay(5, (int) (owed - 1) / 2);
        due("all paid", x.planIs(5, 0), 0);
        due("not failed", x.planIs(5, 3), 1);
        due("owes", x.owes(5), 0);
        long rest = x.owes(4);
        while (rest > 2) {
            rest = x.pay(4, (int) Math.min(99999, rest - 2));
        }
        thrown("owes less than the parts", NO_STATE, () -> x.split(4, 3));
        due("owes as much", x.split(4, 2), 1);
        thrown("planIs", NO_THING, () -> x.planIs(6, 4));
        thrownFor("planIs", NO_RANGE, what -> x.planIs(0, what), -1, 4);
    }

    private static void promise22() {
        UtilityWorks x = new UtilityWorks();
        due("poor", x.poor(3, true), false);
        due("poor again", x.poor(3, true), true);
        thrown("poor", NO_THING, () -> x.poor(6, true));
        due("fund", x.fund(5000), 5000);
        due("fund", x.fund(1), 5001);
        due("money", x.journal(0), 94999);
        thrownFor("fund", NO_RANGE, x::fund, 0, 100000);
        thrown("more than there is", NO_STATE, () -> x.fund(95000));
        UtilityWorks z = new UtilityWorks();
        z.fund(99999);
        due("all that there is", z.fund(1), 100000);
        thrown("nothing is left", NO_STATE, () -> z.fund(1));
        due("no bills", x.bills(0), 0);
        thrown("billIs", NO_THING, () -> x.billIs(0, 0, 8));
        passDays(x, 29);
        due("no bills", x.bills(0), 0);
        x.pass(1);
        due("bills", x.bills(0), 1);
        long[] bill = {29, 9740, 3380, 10800, 250, 0, 23670, 23670};
        for (int what = 0; what < 8; what++) {
            due("billIs " + what, x.billIs(0, 0, what), bill[what]);
        }
        due("half of it, as far as there is", x.billIs(3, 0, 5), 5001);
        due("open", x.billIs(3, 0, 7), x.billIs(3, 0, 6) - 5001);
        due("fund", x.journal(2), 0);
        thrown("billIs", NO_THING, () -> x.billIs(0, 1, 0));
        thrownFor("billIs", NO_RANGE, what -> x.billIs(0, 0, what), -1, 8);
        thrownFor("bills", NO_THING, x::bills, -1, 6);
        due("no item without the good", x.billIs(5, 0, 2), 0);
        x.poor(5, true);
        x.fund(9000);
        x.connect(5, 0, false);
        x.read(5, 0);
        passDays(x, 30);
        due("below 0 at the price", x.billIs(5, 1, 1), 7 * 20);
        due("half of it", x.billIs(5, 1, 5), 70);
        due("interest", x.billIs(5, 0, 7), 5390 + 53);
        UtilityWorks y = new UtilityWorks();
        passDays(y, 31);
        y.unseal(5, 0);
        y.slow(5, 0, 90);
        y.need(5, 0, 1);
        passDays(y, 28);
        y.read(5, 0);
        y.tariff(0, 0, 0);
        y.pass(1);
        due("refunds make it less", y.billIs(5, 1, 6), y.billIs(5, 1, 1) - y.billIs(5, 1, 4));
    }

    private static void promise23() {
        UtilityWorks x = new UtilityWorks();
        x.connect(0, 2, false);
        due("bases", x.billNow(0), 500);
        x.pass(3);
        due("with readings that it would make", x.billNow(0), 500 + 36 * 20 + 24 * 10);
        due("nothing changes", x.meterIs(0, 0, 3), 0);
        x.read(0, 0);
        x.pass(1);
        due("no estimate of what was read", x.billNow(0), 500 + 36 * 20 + 32 * 10);
        thrownFor("billNow", NO_THING, x::billNow, -1, 6);
        thrown("notice", NO_THING, () -> x.notice(6, 2));
        thrownFor("notice", NO_RANGE, what -> x.notice(0, what), -1, 2);
        thrownFor("journal", NO_RANGE, x::journal, -1, 7);
        passDays(x, 26);
        int[] days = {49, 50, 59, 60, 69, 70};
        int[] notices = {0, 1, 1, 2, 2, 3};
        for (int k = 0; k < 6; k++) {
            x.pass(days[k] - x.count(0));
            due("notice of day " + days[k], x.notice(1, 0), notices[k]);
        }
        x.overtime(1, true);
        x.pass(1);
        due("told to cut", x.jobIs(0, 0), 5);
        due("whom", x.jobIs(0, 2), 1);
        due("urgency", x.jobIs(0, 3), 3);
        due("not rank 0", x.jobIs(1, 2), 2);
        due("once", x.nextJob(1), 0);
        x.pass(3);
        due("cut", x.notice(1, 1), 7);
        due("connected", x.customerIs(1, 2), 0);
        x.connect(1, 1, true);
        due("not cut from what was connected by hand", x.notice(1, 1), 5);
        while (x.owes(1) > 0) {
            x.pay(1, (int) Math.min(99999, x.owes(1)));
        }
        due("notice", x.notice(1, 0), 0);
        x.pass(8);
        due("connected again", x.customerIs(1, 2), 7);
        due("cut from none", x.notice(1, 1), 0);
        due("money", x.journal(0) + x.journal(2), 100000 + x.journal(4) - x.journal(6));
        due("owed", x.journal(1), x.journal(3) - x.journal(4) - x.journal(5));
        due("sound", x.isSoundBooks(), true);
    }

    private static void promise24() {
        UtilityWorks x = new UtilityWorks();
        due("crew", x.crew(11, 31, 4), 2);
        thrown("crew", NO_THING, () -> x.crew(12, 0, 0));
        thrown("crew", NO_RANGE, () -> x.crew(0, 0, 1));
        thrown("crew", NO_RANGE, () -> x.crew(0, 32, 1));
        thrownFor("crew", NO_RANGE, pace -> x.crew(0, 1, pace), 0, 5);
        x.crew(0, 1, 1);
        thrown("crew 4", NO_STATE, () -> x.crew(0, 1, 1));
        thrown("leave without a job", NO_STATE, () -> x.leave(0));
        thrownFor("leave", NO_THING, x::leave, -1, 4);
        due("overtime", x.overtime(0, true), false);
        due("overtime", x.overtime(0, false), true);
        thrown("overtime", NO_THING, () -> x.overtime(4, true));
        thrown("crewIs", NO_THING, () -> x.crewIs(4, 7));
        thrownFor("crewIs", NO_RANGE, what -> x.crewIs(0, what), -1, 7);
        UtilityWorks y = new UtilityWorks();
        y.breaks(0, 16);
        y.job(2, 0, 16, 0);
        y.pass(1);
        due("on its way by its pace", y.crewIs(0, 0), 2);
        due("its job", y.crewIs(0, 3), 0);
        due("wages", y.spent(0), 300);
        y.pass(1);
        due("there", y.crewIs(0, 0), 7);
        due("a spell", y.crewIs(0, 4), 1);
        due("a part", y.storeIs(0, 0), 3);
        due("leave", y.leave(0), 0);
        due("no spell", y.crewIs(0, 4), 0);
        due("it waits", y.jobIs(0, 4), 0);
        due("stays where it is", y.crewIs(0, 0), 7);
        y.overtime(0, true);
        y.pass(1);
        due("both spells", y.linkIs(0, 16, 2), 1);
        due("parts are not given back", y.storeIs(0, 0), 2);
        due("done", y.crewIs(0, 6), 1);
        due("overtime", y.spent(0), 300 + 300 + 600);
        y.pass(1);
        due("no overtime without a job", y.spent(0), 1400);
    }

    private static void promise25() {
        UtilityWorks x = new UtilityWorks();
        thrown("job", NO_RANGE, () -> x.job(7, 3, 17, 0));
        thrown("job", NO_RANGE, () -> x.job(-1, 0, 0, 0));
        thrown("job", NO_RANGE, () -> x.job(0, 3, 17, 10));
        thrown("a good where 0 is due", NO_RANGE, () -> x.job(1, 1, 17, 0));
        thrown("a good where 0 is due", NO_RANGE, () -> x.job(4, -1, 17, 0));
        thrown("no good", NO_THING, () -> x.job(2, 3, 0, 0));
        thrown("no street", NO_THING, () -> x.job(3, 0, 17, 0));
        thrown("no customer", NO_THING, () -> x.job(4, 0, 6, 0));
        due("job", x.job(4, 0, 0, 2), 0);
        due("job", x.job(4, 0, 5, 2), 1);
        due("job", x.job(6, 0, 0, 9), 2);
        int[] is = {6, 0, 0, 9, 0, -1};
        for (int what = 0; what < 6; what++) {
            due("jobIs " + what, x.jobIs(2, what), is[what]);
        }
        thrown("jobIs", NO_THING, () -> x.jobIs(3, 6));
        thrownFor("jobIs", NO_RANGE, what -> x.jobIs(0, what), -1, 6);
        due("the greatest urgency", x.nextJob(1), 2);
        due("no skill", x.nextJob(0), -1);
        due("drop", x.dropJob(2), 2);
        thrown("drop again", NO_STATE, () -> x.dropJob(2));
        thrown("drop", NO_THING, () -> x.dropJob(3));
        due("the fewest streets", x.nextJob(1), 0);
        x.dropJob(0);
        x.weather(10, 0, 9);
        x.height(6, 0);
        x.height(2, 0);
        x.height(5, 0);
        x.height(7, 0);
        due("flooded round it then", x.nextJob(1), -1);
        due("not now", x.way(5, 6), 1);
        x.weather(10, 0, 0);
        due("no flood", x.nextJob(1), 1);
        int seed = 0;
        while ((75 * seed + 74) % 65537 / 310 % 10 != 9) {
            seed++;
        }
        x.draws(seed);
        due("flooded by what will be drawn", x.nextJob(1), -1);
        due("nothing is drawn yet", x.weatherIs(4), seed);
        x.pass(1);
        due("so it was", x.crewIs(1, 3), -1);
        due("rain", x.weatherIs(2), 9);
        thrownFor("nextJob", NO_THING, x::nextJob, -1, 2);
        UtilityWorks y = new UtilityWorks();
        y.pass(2);
        for (int k = 0; k < 16; k++) {
            due("job", y.job(4, 0, 0, 0), k);
        }
        thrown("16 are not over", NO_STATE, () -> y.job(4, 0, 0, 0));
        y.pass(3);
        due("the lowest number first", y.jobIs(2, 4), 2);
        due("by whom", y.jobIs(2, 5), 1);
        due("read", y.meterIs(0, 2, 4), 4);
        for (int k = 16; k < 200; k++) {
            due("job", y.job(0, 0, 0, 0), k);
            y.dropJob(k);
        }
        thrown("there were 200", NO_STATE, () -> y.job(0, 0, 0, 0));
        UtilityWorks z = new UtilityWorks();
        z.permit(0, 9, 0, 9);
        z.job(0, 1, 9, 5);
        z.job(3, 2, 9, 0);
        z.job(2, 2, 9, 0);
        z.pass(2);
        due("no permit for that good", z.jobIs(0, 4), 1);
        due("nothing to lay is done", z.jobIs(1, 4), 2);
        due("nothing to mend is done", z.jobIs(2, 4), 2);
        z.share(0, 1);
        z.pass(1);
        due("dug for one that shares it", z.streetIs(9, 3), 1);
        z.job(1, 0, 9, 4);
        z.pass(1);
        due("filled", z.streetIs(9, 6), 3);
        z.breaks(2, 9);
        z.job(2, 2, 9, 0);
        z.pass(3);
        due("not dug", z.jobIs(4, 4), 1);
        due("no part is taken", z.storeIs(2, 0), 2);
        z.hire(9, true);
        z.pass(2);
        due("mended", z.linkIs(2, 9, 2), 1);
        due("a part is taken", z.storeIs(2, 4), 1);
        z.job(3, 0, 3, 0);
        z.pass(5);
        due("laid", z.linkIs(0, 3, 1), 40);
        due("off", z.linkIs(0, 3, 3), 0);
        due("two parts", z.storeIs(0, 4), 2);
    }

    private static void promise26() {
        UtilityWorks x = new UtilityWorks();
        int[] prices = {400, 250, 600, 5};
        for (int part = 0; part < 4; part++) {
            due("price", x.storeIs(part, 3), prices[part]);
            due("order", x.order(part, 2), 2 * prices[part]);
            due("ordered", x.storeIs(part, 1), 2);
        }
        due("money", x.journal(0), 100000 - 2510);
        due("spent", x.spent(1), 2510);
        thrown("order", NO_THING, () -> x.order(4, 0));
        thrownFor("order", NO_RANGE, many -> x.order(0, many), 0, 100);
        for (int k = 0; k < 4; k++) {
            x.order(3, 99);
        }
        thrown("8 have not come", NO_STATE, () -> x.order(3, 1));
        x.pass(5);
        due("not yet", x.storeIs(0, 0), 4);
        x.pass(1);
        due("come", x.storeIs(0, 0), 6);
        due("came", x.storeIs(0, 5), 2);
        due("stock", x.storeIs(3, 0), 598);
        for (int k = 0; k < 5; k++) {
            x.order(3, 99);
        }
        x.pass(6);
        due("999 at most", x.storeIs(3, 0), 999);
        due("gone", x.storeIs(3, 6), 598 + 495 - 999);
        due("came in all", x.storeIs(3, 5), 2 + 9 * 99);
        due("least", x.least(1, 99), 0);
        due("least", x.least(1, 7), 99);
        x.pass(1);
        due("twice its least", x.storeIs(1, 1) + x.storeIs(1, 0), 14);
        x.least(1, 6);
        x.pass(1);
        due("enough", x.storeIs(1, 1), 8);
        thrown("least", NO_THING, () -> x.least(4, 100));
        thrownFor("least", NO_RANGE, least -> x.least(0, least), -1, 100);
        thrown("storeIs", NO_THING, () -> x.storeIs(-1, 7));
        thrownFor("storeIs", NO_RANGE, what -> x.storeIs(0, what), -1, 7);
        thrownFor("spent", NO_RANGE, x::spent, -1, 2);
        UtilityWorks y = new UtilityWorks();
        y.fund(99999);
        thrown("too dear", NO_STATE, () -> y.order(3, 1));
        y.pay(0, 4);
        due("just enough", y.order(3, 1), 5);
        y.least(0, 9);
        y.pass(1);
        due("no money for the least", y.storeIs(0, 1), 0);
    }

    private static void promise27() {
        UtilityWorks x = new UtilityWorks();
        x.breaks(0, 1);
        x.job(2, 0, 1, 1);
        x.pass(1);
        due("sound", x.isSoundCrews(), true);
        due("weather", x.weather(-30, 9, 9), 10);
        due("weather", x.weather(40, 0, 0), -30);
        thrownFor("weather", NO_RANGE, temperature -> x.weather(temperature, 0, 0), -31, 41);
        thrownFor("weather", NO_RANGE, wind -> x.weather(0, wind, 0), -1, 10);
        thrownFor("weather", NO_RANGE, rain -> x.weather(0, 0, rain), -1, 10);
        due("draws", x.draws(1), 1);
        due("the weather stays yet", x.weatherIs(0), 40);
        x.pass(1);
        due("seed", x.weatherIs(4), 149);
        due("temperature", x.weatherIs(0), 149 % 31 - 10);
        due("wind", x.weatherIs(1), 4);
        due("rain", x.weatherIs(2), 0);
        x.pass(1);
        due("seed", x.weatherIs(4), 75 * 149 + 74);
        due("draws", x.draws(65536), 75 * 149 + 74);
        x.pass(1);
        due("seed", x.weatherIs(4), (75 * 65536 + 74) % 65537);
        thrownFor("draws", NO_RANGE, x::draws, -1, 65537);
        x.weather(5, 5, 5);
        x.pass(1);
        due("told, not drawn", x.weatherIs(0), 5);
        due("storm", x.storm(0, 1), 0);
        due("storm", x.storm(2, 9), 1);
        thrownFor("storm", NO_RANGE, row -> x.storm(row, 1), -1, 3);
        thrownFor("storm", NO_RANGE, strength -> x.storm(0, strength), 0, 10);
        x.pass(1);
        x.storm(1, 1);
        x.storm(1, 1);
        thrown("storm 4", NO_STATE, () -> x.storm(0, 1));
        x.pass(4);
        due("the lowest number again", x.storm(1, 1), 0);
    }

    private static void promise28() {
        UtilityWorks x = new UtilityWorks();
        due("alarm", x.alarm(true), false);
        due("alarm", x.alarm(false), true);
        thrownFor("weatherIs", NO_RANGE, x::weatherIs, -1, 7);
        x.storm(0, 4);
        x.storm(1, 3);
        due("not over", x.weatherIs(6), 2);
        due("not begun", x.stormIs(0, 2), -1);
        x.weather(10, 6, 0);
        x.height(5, 29);
        due("the wind", x.force(0), 6);
        x.pass(1);
        due("column", x.stormIs(0, 2), 0);
        due("the greatest", x.force(0), 4);
        due("the other one", x.force(8), 3);
        due("the wind elsewhere", x.force(1), 6);
        x.pass(1);
        due("column", x.stormIs(0, 2), 1);
        due("force", x.force(5), 4);
        due("none broke", x.stormIs(0, 3), 0);
        thrown("stormIs", NO_THING, () -> x.stormIs(2, 4));
        thrownFor("stormIs", NO_RANGE, what -> x.stormIs(0, what), -1, 4);
        thrownFor("force", NO_THING, x::force, -1, 12);
        x.pass(3);
        thrown("over", NO_THING, () -> x.stormIs(0, 0));
        due("none", x.weatherIs(6), 0);
        UtilityWorks y = new UtilityWorks();
        y.storm(2, 9);
        y.pass(1);
        due("row", y.stormIs(0, 0), 2);
        due("strength", y.stormIs(0, 1), 9);
        due("lines with an end under it", y.stormIs(0, 3), 2);
        due("broken", y.count(4), 2);
        due("report", y.report(0), 2);
        y.job(4, 0, 5, 0);
        y.job(2, 0, 9, 0);
        y.alarm(true);
        y.pass(1);
        due("mends", y.jobIs(1, 4), 1);
        due("does nothing else", y.jobIs(0, 4), 0);
        due("nothing for it", y.nextJob(1), -1);
        y.alarm(false);
        y.pass(1);
        due("takes it", y.crewIs(1, 6), 1);
        UtilityWorks z = new UtilityWorks();
        z.job(3, 0, 3, 0);
        z.pass(1);
        due("a spell", z.crewIs(0, 4), 1);
        z.alarm(true);
        z.pass(1);
        due("it left its job", z.crewIs(0, 3), -1);
        due("which waits", z.jobIs(0, 4), 0);
        due("its wage is that of one with a job", z.spent(0), 300 + 300);
        z.pass(1);
        due("and that of one without", z.spent(0), 300 + 300 + 200);
    }

    private static void promise29() {
        UtilityWorks x = new UtilityWorks();
        due("content", x.content(), 6);
        x.breaks(1, 10);
        due("content", x.content(), 4);
        due("gain", x.gain(1, 10), 2);
        due("nothing changes", x.linkIs(1, 10, 2), 0);
        thrown("gain of a sound one", NO_STATE, () -> x.gain(0, 10));
        thrown("gain without a link", NO_STATE, () -> x.gain(2, 5));
        thrown("gain", NO_THING, () -> x.gain(3, 10));
        thrown("gain", NO_THING, () -> x.gain(0, 17));
        due("worth", x.mending(0), 18);
        due("the link", x.mending(1), 27);
        due("no second", x.mending(2), -1);
        due("no third", x.mending(3), -1);
        thrownFor("mending", NO_RANGE, x::mending, -1, 4);
        x.breaks(0, 9);
        due("content", x.content(), 3);
        due("gain", x.gain(0, 9), 1);
        due("both are mended, the pipe first", x.mending(1), 27);
        due("then the line", x.mending(2), 9);
        due("worth", x.mending(0), 5 + 6 + 6);
        x.start(0, false);
        x.start(1, false);
        due("nothing helps", x.mending(1), -1);
        UtilityWorks y = new UtilityWorks();
        y.lay(0, 3, 60);
        y.breaks(0, 10);
        y.turn(0, 3, true);
        y.bound(0, 0, 10);
        y.bound(0, 9, 35);
        due("a line that would close a ring is off", y.gain(0, 10), 0);
        due("it does not help", y.mending(1), -1);
        y.turn(0, 3, false);
        y.bound(0, 0, 60);
        due("one that closes none is on", y.gain(0, 10) > 0, true);
        UtilityWorks z = new UtilityWorks();
        z.turn(0, 14, false);
        z.pass(2);
        due("dark", z.report(2), 2);
        due("anew from then on", z.report(2), 0);
        z.pass(1);
        due("dark", z.report(2), 1);
        z.weather(10, 0, 6);
        z.pass(2);
        due("flooded", z.report(5), 6);
        z.pump(0, false);
        z.pump(1, false);
        z.reserve(0, 200);
        z.pass(1);
        due("short", z.report(3), 5);
        due("others count on", z.report(2), 3);
        thrownFor("report", NO_RANGE, z::report, -1, 6);
    }

    private static void promise30() {
        UtilityWorks x = new UtilityWorks();
        due("sound", x.isSoundStorm(), true);
        x.storm(0, 9);
        x.storm(2, 9);
        for (int k = 0; k < 6; k++) {
            x.pass(1);
            due("sound", x.isSoundStorm(), true);
            due("all sound", x.isSound(), true);
            due("worth", x.mending(0) >= 3 * x.content(), true);
        }
    }

    public static void main(String[] args) {
        Runnable[] promises = {PromisesTest::promise1, PromisesTest::promise2, PromisesTest::promise3,
            PromisesTest::promise4, PromisesTest::promise5, PromisesTest::promise6, PromisesTest::promise7,
            PromisesTest::promise8, PromisesTest::promise9, PromisesTest::promise10, PromisesTest::promise11,
            PromisesTest::promise12, PromisesTest::promise13, PromisesTest::promise14, PromisesTest::promise15,
            PromisesTest::promise16, PromisesTest::promise17, PromisesTest::promise18, PromisesTest::promise19,
            PromisesTest::promise20, PromisesTest::promise21, PromisesTest::promise22, PromisesTest::promise23,
            PromisesTest::promise24, PromisesTest::promise25, PromisesTest::promise26, PromisesTest::promise27,
            PromisesTest::promise28, PromisesTest::promise29, PromisesTest::promise30};
        for (int k = 0; k < promises.length; k++) {
            promise = k + 1;
            try {
                promises[k].run();
            } catch (RuntimeException e) {
                wrong++;
                System.out.println("promise " + promise + " was cut short by " + e);
                e.printStackTrace(System.out);
            }
        }
        System.out.println(wrong == 0 ? "all promises are kept" : wrong + " answers are not as due");
        if (wrong != 0) {
            System.exit(1);
        }
    }
}
