/** The edges that the document names of STREETS and PERMITS: promises 5 to 8. */
public final class StreetEdgesTest {
    /** A PERMIT is for 1 to 9 DAYS one behind the other; it HOLDS on these. */
    static void aPermitHoldsOnItsDays() {
        UtilityWorks x = new UtilityWorks();
        int permit = x.permit(0, 3, 2, 3);
        int[] holds = {0, 0, 1, 1, 1};
        for (int day = 0; day < 5; day++) {
            Edges.due("holds on " + day, x.permitIs(permit, 6), holds[day]);
            Edges.due("holder on " + day, x.streetIs(3, 5), holds[day] - 1);
            x.pass(1);
        }
        Edges.refused("gone with its last day", Edges.NO_THING, () -> x.permitIs(permit, 6));
        Edges.due("no holder", x.streetIs(3, 5), -1);
    }

    /** The same: for one DAY, and for 9. */
    static void aPermitIsForOneDayOrNine() {
        UtilityWorks x = new UtilityWorks();
        x.permit(0, 3, 0, 1);
        x.permit(1, 4, 0, 9);
        Edges.due("sound on its last day", x.isSoundStreets(), true);
        Edges.due("last day", x.permitIs(0, 3), 0);
        Edges.due("last day", x.permitIs(1, 3), 8);
        x.pass(1);
        Edges.due("one is there", x.count(9), 1);
        x.pass(7);
        Edges.due("it holds on its last day", x.permitIs(1, 6), 1);
        x.pass(1);
        Edges.due("none is there", x.count(9), 0);
    }

    /** A new PERMIT gets the lowest number that none has. */
    static void numbersAreGivenAgain() {
        UtilityWorks x = new UtilityWorks();
        Edges.due("permit", x.permit(0, 3, 0, 2), 0);
        Edges.due("permit", x.permit(0, 4, 0, 1), 1);
        Edges.due("permit", x.permit(0, 5, 5, 1), 2);
        x.drop(0);
        Edges.due("the number of one that was dropped", x.permit(1, 6, 0, 9), 0);
        x.pass(1);
        Edges.due("the number of one that is gone", x.permit(2, 7, 3, 3), 1);
        Edges.due("the next one", x.permit(2, 8, 3, 3), 3);
        Edges.due("its street", x.permitIs(1, 1), 7);
        Edges.due("not shared any more", x.permitIs(1, 5), 0);
    }

    /** The same: what was SHARED with the number ahead is not SHARED with it again. */
    static void aNumberGivenAgainIsSharedByNone() {
        UtilityWorks x = new UtilityWorks();
        x.permit(0, 3, 0, 2);
        x.share(0, 1);
        x.share(0, 2);
        Edges.due("shared by both", x.permitIs(0, 5), 6);
        x.drop(0);
        Edges.due("again", x.permit(1, 3, 0, 2), 0);
        Edges.due("shared by none", x.permitIs(0, 5), 0);
        Edges.due("its good", x.permitIs(0, 0), 1);
        Edges.due("share", x.share(0, 2), 500);
    }

    /** FEE: 500 for each DAY, times the SURFACE and 1; half of it to share. */
    static void feesBySurfaceAndDays() {
        for (int surface = 0; surface < 3; surface++) {
            UtilityWorks x = new UtilityWorks();
            x.surface(4, surface);
            long money = x.journal(0);
            int permit = x.permit(0, 4, 3, 1);
            Edges.due("for one day", x.permitIs(permit, 4), 500 * (surface + 1));
            Edges.due("goes from the money", money - x.journal(0), 500 * (surface + 1));
            permit = x.permit(0, 4, 5, 9);
            Edges.due("for nine", x.permitIs(permit, 4), 4500 * (surface + 1));
            Edges.due("half", x.share(permit, 1), 2250 * (surface + 1));
            Edges.due("half again", x.share(permit, 2), 2250 * (surface + 1));
            Edges.due("the fee stays", x.permitIs(permit, 4), 4500 * (surface + 1));
            Edges.due("all of it", money - x.journal(0), 9500 * (surface + 1));
            x.surface(4, (surface + 1) % 3);
            Edges.due("as it was given", x.permitIs(permit, 4), 4500 * (surface + 1));
        }
    }

    /** REASON 1: the first DAY is less than the DAY of now. */
    static void reason1() {
        UtilityWorks x = new UtilityWorks();
        Edges.due("the first day", x.may(3, 0, 1), 0);
        x.pass(5);
        Edges.due("yesterday", x.may(3, 4, 9), 1);
        Edges.due("long ago", x.may(3, 0, 1), 1);
        Edges.due("today", x.may(3, 5, 9), 0);
        Edges.due("the last day that may be asked", x.may(3, 9999, 9), 0);
    }

    /** REASON 2: on one of the DAYS another PERMIT of this STREET HOLDS. */
    static void reason2() {
        UtilityWorks x = new UtilityWorks();
        x.permit(2, 3, 4, 3);
        x.permit(2, 3, 3, 1);
        Edges.due("sound with one behind the other", x.isSoundStreets(), true);
        x.drop(1);
        Edges.due("up to the day ahead of it", x.may(3, 2, 2), 0);
        Edges.due("up to its first day", x.may(3, 2, 3), 2);
        Edges.due("within it", x.may(3, 5, 1), 2);
        Edges.due("round it", x.may(3, 1, 9), 2);
        Edges.due("from its last day", x.may(3, 6, 1), 2);
        Edges.due("from the day behind it", x.may(3, 7, 9), 0);
        Edges.due("another street", x.may(4, 4, 3), 0);
        x.drop(0);
        Edges.due("dropped", x.may(3, 4, 3), 0);
    }

    /** REASON 3: one of the DAYS is one of its MARKETS; bit d for the DAYS with DAY % 7 = d. */
    static void reason3() {
        UtilityWorks x = new UtilityWorks();
        for (int d = 0; d < 7; d++) {
            x.market(3, 1 << d);
            for (int day = 0; day < 15; day++) {
                Edges.due("market " + d + " on " + day, x.may(3, day, 1), day % 7 == d ? 3 : 0);
            }
            Edges.due("the six days behind it", x.may(3, 7 + d + 1, 6), 0);
            Edges.due("seven days", x.may(3, 7 + d + 1, 7), 3);
        }
        x.market(3, 127);
        Edges.due("each day", x.may(3, 8, 1), 3);
        Edges.due("another street", x.may(4, 8, 1), 0);
        Edges.due("market", x.market(3, 0), 127);
        Edges.due("none", x.may(3, 0, 9), 0);
    }

    /** market: PERMITS that were given stay. */
    static void permitsStayOnNewMarkets() {
        UtilityWorks x = new UtilityWorks();
        x.permit(0, 3, 0, 2);
        x.market(3, 127);
        Edges.due("it holds", x.permitIs(0, 6), 1);
        Edges.due("and is dug by", x.hire(3, true), 5000);
        x.pass(1);
        Edges.due("it holds", x.permitIs(0, 6), 1);
        Edges.due("no fine", x.streetIs(3, 8), 0);
    }

    /** REASON 4: it is asphalt, and was filled less than 20 DAYS ahead of the first DAY. */
    static void reason4() {
        UtilityWorks x = new UtilityWorks();
        x.surface(3, 2);
        Edges.due("never filled", x.may(3, 0, 1), 0);
        Edges.dig(x, 3);
        x.hire(3, false);
        Edges.due("on that day", x.may(3, 0, 1), 4);
        Edges.due("19 days behind", x.may(3, 19, 9), 4);
        Edges.due("20 days behind", x.may(3, 20, 1), 0);
        x.pass(5);
        Edges.due("by the first day, not by now", x.may(3, 19, 1), 4);
        x.surface(3, 1);
        Edges.due("stones", x.may(3, 5, 1), 0);
        x.surface(3, 0);
        Edges.due("gravel", x.may(3, 5, 1), 0);
        x.surface(3, 2);
        x.pass(15);
        Edges.due("day 20", x.may(3, 20, 1), 0);
        Edges.dig(x, 3);
        x.hire(3, false);
        Edges.due("filled again", x.may(3, 39, 1), 4);
        Edges.due("filled again", x.may(3, 40, 1), 0);
    }

    /** REASON 5: the TEMPERATURE of now is below 0, and it is not gravel. */
    static void reason5() {
        UtilityWorks x = new UtilityWorks();
        x.surface(3, 2);
        x.weather(-1, 0, 0);
        Edges.due("asphalt", x.may(3, 0, 1), 5);
        Edges.due("stones", x.may(0, 500, 1), 5);
        Edges.due("gravel", x.may(4, 0, 1), 0);
        x.weather(0, 0, 0);
        Edges.due("asphalt", x.may(3, 0, 1), 0);
        Edges.due("stones", x.may(0, 0, 1), 0);
    }

    /** REASONS, of which the lowest is told. */
    static void theLowestReasonIsTold() {
        UtilityWorks x = new UtilityWorks();
        Edges.dig(x, 3);
        x.hire(3, false);
        x.surface(3, 2);
        x.pass(3);
        x.permit(0, 3, 22, 1);
        x.weather(-1, 0, 0);
        Edges.due("5 alone", x.may(3, 24, 1), 5);
        Edges.due("4 ahead of 5", x.may(3, 10, 1), 4);
        x.market(3, 127);
        Edges.due("3 ahead of 4", x.may(3, 10, 1), 3);
        Edges.due("2 ahead of 3", x.may(3, 14, 9), 2);
        Edges.due("1 ahead of all", x.may(3, 2, 9), 1);
    }

    /** firstFree: from the DAY of now on, NONE if there is none up to 60 DAYS behind the DAY of now. */
    static void firstFreeUpTo60Days() {
        UtilityWorks x = new UtilityWorks();
        x.pass(7);
        Edges.due("today", x.firstFree(3, 9), 7);
        for (int k = 0; k < 6; k++) {
            x.permit(0, 3, 7 + 9 * k, 9);
        }
        x.permit(0, 3, 61, 6);
        Edges.due("60 days behind", x.firstFree(3, 1), 67);
        Edges.due("60 days behind, for 9", x.firstFree(3, 9), 67);
        int last = x.permit(0, 3, 67, 1);
        Edges.due("61 days behind", x.firstFree(3, 1), -1);
        x.pass(1);
        Edges.due("60 days behind", x.firstFree(3, 1), 68);
        x.drop(last);
        Edges.due("the gap", x.firstFree(3, 1), 67);
        Edges.due("the gap is open behind", x.firstFree(3, 9), 67);
        x.permit(0, 3, 68, 9);
        Edges.due("the gap is one day", x.firstFree(3, 1), 67);
        Edges.due("too small a gap", x.firstFree(3, 2), -1);
    }

    /** firstFree by the other REASONS. */
    static void firstFreeByOtherReasons() {
        UtilityWorks x = new UtilityWorks();
        x.market(3, 1);
        Edges.due("behind the market", x.firstFree(3, 1), 1);
        Edges.due("six days fit", x.firstFree(3, 6), 1);
        Edges.due("seven never do", x.firstFree(3, 7), -1);
        x.weather(-1, 0, 0);
        Edges.due("frost on gravel", x.firstFree(3, 1), 1);
        Edges.due("frost on stones", x.firstFree(0, 1), -1);
        x.weather(0, 0, 0);
        Edges.due("no frost", x.firstFree(0, 1), 0);
        Edges.dig(x, 0);
        x.hire(0, false);
        x.surface(0, 2);
        Edges.due("filled today", x.firstFree(0, 1), 20);
        UtilityWorks y = new UtilityWorks();
        Edges.passTo(y, 999);
        Edges.due("on the last day", y.firstFree(3, 9), 999);
        y.market(3, 1 << 5);
        Edges.due("behind the last day", y.firstFree(3, 1), 1000);
    }

    /** drop: for how many DAYS, the DAY of now with them, it would have held yet. */
    static void dropTellsTheDaysLeft() {
        UtilityWorks x = new UtilityWorks();
        x.permit(0, 3, 0, 9);
        x.permit(0, 4, 0, 9);
        x.permit(0, 5, 0, 9);
        Edges.due("on its first day", x.drop(0), 9);
        x.pass(4);
        Edges.due("within", x.drop(1), 5);
        x.pass(4);
        Edges.due("on its last day", x.drop(2), 1);
        Edges.due("for one day", x.drop(x.permit(0, 5, 8, 1)), 1);
        long money = x.journal(0);
        x.permit(0, 5, 8, 2);
        x.drop(0);
        Edges.due("the fee is not paid back", money - x.journal(0), 1000);
        Edges.refused("it is gone", Edges.NO_THING, () -> x.drop(0));
    }

    /** hire: only where a PERMIT HOLDS today, whatever GOOD it is for, for 5000; fill for 2000. */
    static void hiredMenDigByAPermitForAnyGood() {
        for (int good = 0; good < 3; good++) {
            UtilityWorks x = new UtilityWorks();
            x.permit(good, 3, 1, 3);
            Edges.refused("the day ahead", Edges.NO_STATE, () -> x.hire(3, true));
            x.pass(1);
            long money = x.journal(0);
            Edges.due("on its first day", x.hire(3, true), 5000);
            Edges.due("fill", x.hire(3, false), 2000);
            Edges.due("money", money - x.journal(0), 7000);
            x.pass(2);
            Edges.due("on its last day", x.hire(3, true), 5000);
            x.hire(3, false);
            x.pass(1);
            Edges.refused("the day behind", Edges.NO_STATE, () -> x.hire(3, true));
            Edges.due("filled last on", x.streetIs(3, 6), 3);
        }
    }

    /** FINE: for each STREET that is DUG, and for which no PERMIT HOLDS on that DAY, 1000. */
    static void finesBeginBehindTheLastDay() {
        UtilityWorks x = new UtilityWorks();
        x.permit(1, 3, 0, 2);
        x.hire(3, true);
        x.pass(2);
        Edges.due("not on its last day", x.streetIs(3, 8), 0);
        long money = x.journal(0);
        x.pass(1);
        Edges.due("on the day behind", x.streetIs(3, 8), 1);
        Edges.due("fine and wages", money - x.journal(0), 1000 + 200);
        x.permit(2, 3, 4, 1);
        x.pass(1);
        Edges.due("a permit of tomorrow does not help", x.streetIs(3, 8), 2);
        x.pass(1);
        Edges.due("a permit for another good does", x.streetIs(3, 8), 2);
        x.hire(3, false);
        x.pass(1);
        Edges.due("filled", x.streetIs(3, 8), 2);
        Edges.dig(x, 3);
        Edges.dig(x, 0);
        Edges.dig(x, 16);
        money = x.journal(0);
        x.pass(2);
        Edges.due("three streets, two days", money - x.journal(0), 6 * 1000 + 2 * 200);
        Edges.due("fines of 3", x.streetIs(3, 8), 4);
        Edges.due("fines of 0", x.streetIs(0, 8), 2);
        Edges.due("fines of 16", x.streetIs(16, 8), 2);
    }

    /** CLOSED, if it is DUG or FLOODED. */
    static void closedIfDugOrFlooded() {
        UtilityWorks x = new UtilityWorks();
        Edges.dig(x, 0);
        Edges.due("dug", x.way(0, 1), 3);
        x.height(2, 17);
        x.height(6, 17);
        x.weather(10, 0, 9);
        x.pass(1);
        Edges.due("flooded", x.streetIs(11, 4), 1);
        Edges.due("flooded", x.way(2, 6), 3);
        x.hire(0, false);
        Edges.due("filled", x.way(0, 1), 1);
        x.weather(10, 0, 8);
        x.pass(1);
        Edges.due("dry", x.way(2, 6), 1);
    }

    /** way: 0 to itself; NONE if there is no PATH. */
    static void noPathOutOfClosedStreets() {
        UtilityWorks x = new UtilityWorks();
        Edges.dig(x, 0);
        Edges.dig(x, 9);
        Edges.due("to itself", x.way(0, 0), 0);
        Edges.due("no street to itself", x.wayIs(0, 0, 0), -1);
        Edges.due("no path out", x.way(0, 11), -1);
        Edges.due("no path in", x.way(11, 0), -1);
        Edges.due("no street of none", x.wayIs(0, 11, 0), -1);
        Edges.due("no street of none", x.wayIs(11, 0, 11), -1);
        Edges.due("others", x.way(1, 4), 2);
        x.hire(9, false);
        Edges.due("out again", x.way(0, 1), 3);
    }

    /** The WAY: of several the first by the numbers of its CROSSINGS. */
    static void theFirstWayByItsCrossings() {
        UtilityWorks x = new UtilityWorks();
        steps(x, 0, 11, 0, 1, 2, 12, 16);
        steps(x, 11, 0, 16, 12, 2, 1, 0);
        steps(x, 5, 0, 10, 0);
        steps(x, 6, 9, 4, 14);
        steps(x, 9, 6, 14, 4);
        steps(x, 3, 8, 2, 1, 0, 9, 13);
        Edges.dig(x, 1);
        steps(x, 0, 3, 0, 10, 4, 11, 2);
        steps(x, 0, 11, 0, 10, 4, 5, 16);
    }

    /** wayIs asked alone, behind calls that look at other things. */
    static void aWayIsFoundAnewForEachStreet() {
        UtilityWorks x = new UtilityWorks();
        Edges.dig(x, 0);
        x.joined(0, 0, 1);
        Edges.due("round it", x.wayIs(0, 1, 0), 9);
        x.joined(2, 0, 1);
        Edges.due("and back", x.wayIs(0, 1, 2), 10);
        x.hire(0, false);
        x.joined(1, 11, 0);
        Edges.due("as it is filled", x.wayIs(0, 1, 0), 0);
        x.joined(1, 11, 0);
        Edges.due("where no link leads", x.way(0, 11), 5);
    }

    private static void steps(UtilityWorks x, int from, int to, int... streets) {
        Edges.due("way from " + from + " to " + to, x.way(from, to), streets.length);
        for (int k = 0; k < 12; k++) {
            Edges.due("step " + k + " from " + from + " to " + to, x.wayIs(from, to, k),
                    k < streets.length ? streets[k] : -1);
        }
    }

    /** wayIs: NONE if there are not so many; the longest WAY has 11. */
    static void theLongestWay() {
        UtilityWorks x = new UtilityWorks();
        for (int s : new int[] {9, 10, 11, 14, 15, 16}) {
            Edges.dig(x, s);
        }
        steps(x, 0, 11, 0, 1, 2, 12, 5, 4, 3, 13, 6, 7, 8);
        steps(x, 11, 0, 8, 7, 6, 13, 3, 4, 5, 12, 2, 1, 0);
        Edges.due("sound", x.isSoundStreets(), true);
    }

    /** streetIs: NONE for the PERMIT and the DAY on which it was filled last, ahead of any. */
    static void filledLastOnNoDayAtFirst() {
        UtilityWorks x = new UtilityWorks();
        Edges.due("never filled", x.streetIs(3, 6), -1);
        Edges.due("no permit", x.streetIs(3, 5), -1);
        Edges.dig(x, 3);
        Edges.due("dug is not filled", x.streetIs(3, 6), -1);
        x.hire(3, false);
        Edges.due("filled on the day 0", x.streetIs(3, 6), 0);
        x.pass(4);
        Edges.dig(x, 3);
        x.hire(3, false);
        Edges.due("filled on the day 4", x.streetIs(3, 6), 4);
    }

    /** STREETS are 0 to 16, each from its lower CROSSING to its other one. */
    static void theEndsOfAllStreets() {
        UtilityWorks x = new UtilityWorks();
        for (int row = 0; row < 3; row++) {
            for (int column = 0; column < 3; column++) {
                Edges.due("lower end", x.streetIs(3 * row + column, 0), 4 * row + column);
                Edges.due("other end", x.streetIs(3 * row + column, 1), 4 * row + column + 1);
            }
        }
        for (int row = 0; row < 2; row++) {
            for (int column = 0; column < 4; column++) {
                Edges.due("lower end", x.streetIs(9 + 4 * row + column, 0), 4 * row + column);
                Edges.due("other end", x.streetIs(9 + 4 * row + column, 1), 4 * row + column + 4);
            }
        }
    }

    /** REASON 4: by the DAY on which it was filled last, whatever its SURFACE was then, and was since. */
    static void filledUnderAnotherSurface() {
        UtilityWorks x = new UtilityWorks();
        x.pass(3);
        Edges.dig(x, 3);
        x.hire(3, false);
        for (int surface = 1; surface >= 0; surface--) {
            x.surface(3, 2);
            Edges.due("asphalt", x.may(3, 22, 1) * 10 + x.may(3, 23, 1), 40);
            x.surface(3, surface);
            Edges.due("not asphalt", x.may(3, 3, 1), 0);
            Edges.due("filled last", x.streetIs(3, 6), 3);
        }
    }

    public static void main(String[] args) {
        Edges.runAll(StreetEdgesTest.class);
    }
}
