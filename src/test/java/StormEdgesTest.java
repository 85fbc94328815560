/** The edges that the document names of the weather, STORMS, CONTENT, MENDING and the REPORT: promises 27 to 30. */
public final class StormEdgesTest {
    private static void weather(UtilityWorks x, int... due) {
        for (int what = 0; what < due.length; what++) {
            Edges.due("weatherIs " + what, x.weatherIs(what), due[what]);
        }
    }

    /** 10, 2 and 0 at first, not drawn, the SEED 1, no ALARM, no STORM. */
    static void theWeatherAtFirst() {
        UtilityWorks x = new UtilityWorks();
        weather(x, 10, 2, 0, 0, 1, 0, 0);
        x.pass(5);
        weather(x, 10, 2, 0, 0, 1, 0, 0);
    }

    /** weather: -30 to 40, 0 to 9, 0 to 9; it is told at once, and is not drawn any more. */
    static void theWeatherIsTold() {
        UtilityWorks x = new UtilityWorks();
        Edges.due("weather", x.weather(-30, 0, 9), 10);
        weather(x, -30, 0, 9);
        Edges.due("weather", x.weather(40, 9, 0), -30);
        weather(x, 40, 9, 0);
        x.draws(5);
        Edges.due("weather", x.weather(40, 0, 0), 40);
        weather(x, 40, 0, 0, 0, 5);
        x.pass(3);
        weather(x, 40, 0, 0, 0, 5);
    }

    /** What is FLOODED and BROKEN comes with the next DAY. */
    static void floodsComeWithTheNextDay() {
        UtilityWorks x = new UtilityWorks();
        x.height(0, 0);
        x.height(1, 0);
        x.weather(10, 9, 9);
        Edges.due("not yet", x.count(4) * 100 + x.count(8), 0);
        Edges.due("the force is that of now", x.force(0), 9);
        x.pass(1);
        Edges.due("all lines", x.count(4), 11);
        Edges.due("flooded", x.streetIs(0, 4), 1);
        x.weather(10, 0, 0);
        Edges.due("still", x.streetIs(0, 4), 1);
        x.pass(1);
        Edges.due("no more", x.count(8), 0);
    }

    /** The SEED x becomes (75 * x + 74) % 65537. */
    static void theSeedGoesRound() {
        int[][] rows = {{0, 74}, {1, 149}, {872, 65474}, {873, 12}, {65535, 65461}, {65536, 65536}};
        for (int[] r : rows) {
            UtilityWorks x = new UtilityWorks();
            Edges.due("draws", x.draws(r[0]), 1);
            weather(x, 10, 2, 0, 1, r[0]);
            x.pass(1);
            weather(x, r[1] % 31 - 10, r[1] / 31 % 10, r[1] / 310 % 10, 1, r[1]);
            long next = (75L * r[1] + 74) % 65537;
            x.pass(1);
            weather(x, (int) next % 31 - 10, (int) next / 31 % 10, (int) next / 310 % 10, 1, (int) next);
            Edges.due("draws", x.draws(3), next);
        }
    }

    /** The least and the greatest that is drawn: the SEED 0 tells -10, 0 and 0. */
    static void theSeed0IsDrawn() {
        int seed = 0;
        while ((75 * seed + 74) % 65537 != 0) {
            seed++;
        }
        UtilityWorks x = new UtilityWorks();
        x.draws(seed);
        x.pass(1);
        weather(x, -10, 0, 0, 1, 0);
        while ((75 * seed + 74) % 65537 % 31 != 30) {
            seed--;
        }
        x.draws(seed);
        x.pass(1);
        Edges.due("20 at most", x.weatherIs(0), 20);
    }

    /** A STORM begins with the weather of the next DAY, in the column 0; behind the column 3 it is over. */
    static void aStormFromColumn0To3() {
        UtilityWorks x = new UtilityWorks();
        Edges.due("storm", x.storm(2, 1), 0);
        for (int column = -1; column < 4; column++) {
            int[] due = {2, 1, column, 0};
            for (int what = 0; what < 4; what++) {
                Edges.due("stormIs " + what + " in column " + column, x.stormIs(0, what), due[what]);
            }
            Edges.due("not over", x.weatherIs(6), 1);
            x.pass(1);
        }
        Edges.due("over", x.weatherIs(6), 0);
        Edges.refused("over", Edges.NO_THING, () -> x.stormIs(0, 0));
        Edges.due("sound", x.isSoundStorm(), true);
    }

    /** Its number can be given again, the lowest that none has. */
    static void numbersOfStormsAreGivenAgain() {
        UtilityWorks x = new UtilityWorks();
        x.storm(0, 9);
        x.pass(2);
        Edges.due("lines it broke", x.stormIs(0, 3) > 0, true);
        Edges.due("storm", x.storm(1, 2), 1);
        Edges.due("storm", x.storm(1, 3), 2);
        x.pass(3);
        Edges.due("the first one is over", x.weatherIs(6), 2);
        Edges.refused("the first one is over", Edges.NO_THING, () -> x.stormIs(0, 0));
        Edges.due("its number", x.storm(2, 9), 0);
        int[] due = {2, 9, -1, 0};
        for (int what = 0; what < 4; what++) {
            Edges.due("of the new one, " + what, x.stormIs(0, what), due[what]);
        }
        Edges.due("the next one", x.storm(2, 9), 3);
        Edges.refused("there are 4", Edges.NO_STATE, () -> x.storm(0, 1));
    }

    /** It is OVER the CROSSING in its ROW and column, and those in the same column in the ROWS beside that one. */
    static void whatAStormIsOver() {
        boolean[][] over = {{true, true, false}, {true, true, true}, {false, true, true}};
        for (int row = 0; row < 3; row++) {
            UtilityWorks x = new UtilityWorks();
            x.storm(row, 7);
            for (int c = 0; c < 12; c++) {
                Edges.due("not begun", x.force(c), 2);
            }
            for (int column = 0; column < 4; column++) {
                x.pass(1);
                for (int c = 0; c < 12; c++) {
                    Edges.due("force at " + c, x.force(c), c % 4 == column && over[row][c / 4] ? 7 : 2);
                }
            }
            x.pass(1);
            for (int c = 0; c < 12; c++) {
                Edges.due("over", x.force(c), 2);
            }
        }
    }

    /** There the FORCE is its STRENGTH, the greatest of several, whatever the WIND is. */
    static void theForceUnderStorms() {
        UtilityWorks x = new UtilityWorks();
        x.storm(0, 1);
        x.storm(1, 3);
        x.storm(2, 2);
        x.pass(1);
        x.weather(10, 4, 0);
        Edges.due("the greatest of two", x.force(0), 3);
        Edges.due("the greatest of three", x.force(4), 3);
        Edges.due("the wind elsewhere", x.force(1), 4);
        x.pass(4);
        Edges.due("they are over", x.force(0), 4);
        UtilityWorks y = new UtilityWorks();
        y.weather(10, 9, 0);
        y.storm(1, 1);
        y.pass(1);
        Edges.due("below the wind", y.force(4), 1);
        Edges.due("a line with both ends under it holds", y.linkIs(0, 9, 2) + y.linkIs(0, 13, 2), 2);
        Edges.due("all others break", y.count(4), 9);
    }

    /** BROKEN where the FORCE is 5 or more, and the HEIGHT and ten times the FORCE, together, are 90 or more. */
    static void linesBreakFrom5And90() {
        int[][] rows = {{5, 40, 1}, {5, 39, 0}, {4, 99, 0}, {6, 30, 1}, {6, 29, 0}, {9, 0, 1}, {8, 10, 1}, {8, 9, 0}};
        for (int[] r : rows) {
            for (int end = 0; end < 2; end++) {
                UtilityWorks x = new UtilityWorks();
                for (int c = 0; c < 12; c++) {
                    x.height(c, 0);
                }
                x.height(end == 0 ? 7 : 11, r[1]);
                x.weather(10, r[0], 0);
                x.pass(1);
                String what = "force " + r[0] + " at a height of " + r[1];
                Edges.due(what, x.linkIs(0, 16, 2), 1 - r[2]);
                Edges.due(what + ", of another line", x.linkIs(0, 0, 2), r[0] == 9 ? 0 : 1);
                Edges.due("pipes hold", x.count(5) + x.count(6), 0);
            }
        }
    }

    /** Each LINE that is SOUND: OFF or ON; one that is BROKEN is not counted again. */
    static void soundLinesBreakOnce() {
        UtilityWorks x = new UtilityWorks();
        x.turn(0, 0, false);
        x.breaks(0, 1);
        x.weather(10, 9, 0);
        x.pass(1);
        Edges.due("off", x.linkIs(0, 0, 2), 0);
        Edges.due("off it stays", x.linkIs(0, 0, 3), 0);
        Edges.due("on it stays", x.linkIs(0, 9, 3), 1);
        Edges.due("all but the one that was broken", x.report(0), 10);
        x.pass(2);
        Edges.due("none again", x.report(0), 0);
    }

    /** stormIs 3: how many LINES were BROKEN with an end under it. */
    static void linesBrokenUnderAStorm() {
        UtilityWorks x = new UtilityWorks();
        x.weather(10, 0, 0);
        x.storm(0, 9);
        x.storm(2, 1);
        x.pass(1);
        Edges.due("lines at 0 and 4", x.stormIs(0, 3), 3);
        Edges.due("broken", x.count(4), 3);
        x.pass(1);
        Edges.due("more at 1 and 5", x.stormIs(0, 3), 6);
        Edges.due("report", x.report(0), 6);
        Edges.due("which", x.linkIs(0, 1, 2) + x.linkIs(0, 10, 2) + x.linkIs(0, 14, 2), 0);
    }

    /** FLOODED: both ends have a HEIGHT below twice the RAIN. */
    static void floodedBelowTwiceTheRain() {
        int[][] rows = {{0, 0, 0, 0}, {1, 1, 1, 1}, {1, 1, 2, 0}, {1, 2, 1, 0}, {1, 2, 2, 0}, {9, 17, 17, 1}, {9, 18, 17, 0},
            {9, 17, 18, 0}, {9, 0, 99, 0}, {5, 9, 0, 1}, {5, 10, 0, 0}};
        for (int[] r : rows) {
            UtilityWorks x = new UtilityWorks();
            for (int c = 0; c < 12; c++) {
                x.height(c, 50);
            }
            x.height(2, r[1]);
            x.height(6, r[2]);
            x.weather(10, 0, r[0]);
            x.pass(1);
            String what = "rain of " + r[0] + " at " + r[1] + " and " + r[2];
            Edges.due(what, x.streetIs(11, 4), r[3]);
            Edges.due("in all", x.count(8), r[3]);
            x.pass(2);
            Edges.due("each day", x.report(5), 3 * r[3]);
        }
    }

    /** While there is an ALARM, each whose JOB is not to MEND leaves that first, and CREWS take JOBS to MEND alone. */
    static void onlyMendingInAnAlarm() {
        UtilityWorks x = new UtilityWorks();
        x.job(3, 0, 3, 9);
        x.breaks(2, 10);
        x.job(2, 2, 10, 0);
        x.pass(1);
        Edges.due("at work", x.crewIs(0, 3) * 10 + x.crewIs(1, 3), 1);
        Edges.due("alarm", x.alarm(true), false);
        x.breaks(0, 9);
        x.job(2, 0, 9, 0);
        x.job(4, 0, 0, 9);
        x.pass(1);
        Edges.due("it left its job, and took one to mend", x.crewIs(0, 3), 2);
        Edges.due("the first waits, with no spell", x.jobIs(0, 4) * 10 + x.jobIs(0, 5), -1);
        Edges.due("one to mend goes on", x.crewIs(1, 3), 1);
        x.pass(4);
        Edges.due("no other is taken", x.crewIs(0, 3), -1);
        Edges.due("nor told", x.nextJob(0), -1);
        Edges.due("alarm", x.alarm(true), true);
        Edges.due("alarm", x.alarm(false), true);
        Edges.due("told now", x.nextJob(0), 0);
        x.pass(1);
        Edges.due("taken now", x.crewIs(0, 3), 0);
    }

    /** One that left its JOB on this DAY, as there is an ALARM, has had one; its WAGE is by that. */
    static void theWageOfOneWhoLeft() {
        for (int overtime = 0; overtime < 2; overtime++) {
            UtilityWorks x = new UtilityWorks();
            x.job(0, 0, 0, 9);
            x.pass(1);
            Edges.due("a job and none", x.spent(0), 300);
            x.overtime(0, overtime == 1);
            x.alarm(true);
            x.pass(1);
            Edges.due("no job", x.crewIs(0, 3), -1);
            Edges.due("left one", x.spent(0), 300 + 100 + (overtime == 1 ? 500 : 200));
            x.pass(1);
            Edges.due("none at all", x.spent(0), 300 + 100 + (overtime == 1 ? 500 : 200) + 200);
        }
    }

    /** CONTENT: of each GOOD to which it is CONNECTED all that it WANTS; one who WANTS nothing is. */
    static void contentWithAll() {
        UtilityWorks x = Edges.quiet();
        Edges.due("all want nothing", x.content(), 6);
        x.connect(2, 1, true);
        x.reserve(0, 147);
        Edges.due("just all", x.content(), 6);
        x.reserve(0, 148);
        Edges.due("one less", x.content(), 5);
        x.need(2, 1, 2);
        Edges.due("just all", x.content(), 6);
        x.connect(2, 0, true);
        Edges.due("of both", x.content(), 6);
        x.turn(0, 2, false);
        x.turn(0, 12, false);
        Edges.due("of one alone", x.content(), 5);
        x.connect(2, 0, false);
        x.connect(2, 2, true);
        x.need(2, 2, 10);
        Edges.due("not of heat", x.content(), 5);
        x.weather(18, 0, 0);
        Edges.due("no cold", x.content(), 6);
        Edges.customer(x, 0, 0, 0, 0);
        Edges.due("a new one", x.content(), 7);
    }

    /** The GAIN may be below 0. */
    static void aGainBelow0() {
        UtilityWorks x = Edges.quiet();
        x.start(1, false);
        x.start(0, false);
        x.plant(5, 12);
        x.breaks(0, 10);
        Edges.customer(x, 5, 5, 0, 6);
        Edges.customer(x, 9, 5, 0, 6);
        Edges.customer(x, 1, 0, 0, 12);
        Edges.due("content", x.content(), 8);
        Edges.due("gain", x.gain(0, 10), -1);
        Edges.due("nothing changes", x.linkIs(0, 10, 2) * 10 + x.linkIs(0, 10, 3), 1);
        Edges.due("the best is to mend none", x.mending(1), -1);
        Edges.due("worth", x.mending(0), 24);
    }

    /** The GAIN: SOUND, and ON, but OFF, if it is a LINE that would close a ring. */
    static void theGainOfALineInARing() {
        UtilityWorks x = Edges.quiet();
        x.start(1, false);
        x.connect(0, 0, true);
        x.lay(0, 3, 60);
        x.breaks(0, 3);
        x.bound(0, 10, 11);
        Edges.due("the line 10 trips, but it leads now", x.gain(0, 3), 0);
        x.turn(0, 10, false);
        Edges.due("it closes no ring now", x.gain(0, 3), 1);
        Edges.due("off as it was", x.linkIs(0, 3, 3), 0);
        x.turn(0, 3, true);
        Edges.due("the same if it is on", x.gain(0, 3), 1);
        Edges.due("on as it was", x.linkIs(0, 3, 3), 1);
    }

    /** The best MENDING, if no LINK is BROKEN. */
    static void nothingToMend() {
        UtilityWorks x = new UtilityWorks();
        Edges.due("worth", x.mending(0), 18);
        for (int k = 1; k <= 3; k++) {
            Edges.due("none", x.mending(k), -1);
        }
        x.turn(0, 11, false);
        Edges.due("one that is off is not broken", x.mending(1), -1);
        Edges.due("worth", x.mending(0), 15);
    }

    /** A quiet town in which the CUSTOMER 4, at 9, has its WATER from the TANK by the PIPES 2, 1, 10 and 14. */
    private static UtilityWorks watered() {
        UtilityWorks x = Edges.quiet();
        x.connect(4, 1, true);
        Edges.due("content", x.content(), 6);
        return x;
    }

    private static void mends(UtilityWorks x, int worth, int... links) {
        Edges.due("worth", x.mending(0), worth);
        for (int k = 0; k < 3; k++) {
            Edges.due("link " + k, x.mending(1 + k), k < links.length ? links[k] : -1);
        }
    }

    /** A MENDING is an order of up to three LINKS. */
    static void upToThreeLinks() {
        UtilityWorks x = watered();
        x.breaks(1, 14);
        mends(x, 18, 31);
        x.breaks(1, 10);
        mends(x, 5 + 6 + 6, 27, 31);
        x.breaks(1, 1);
        mends(x, 5 + 5 + 6, 18, 27, 31);
        x.breaks(1, 2);
        mends(x, 15);
        Edges.due("nothing changes", x.count(5), 4);
        UtilityWorks y = new UtilityWorks();
        y.start(1, false);
        y.breaks(0, 0);
        Edges.due("the first link of all", y.mending(1), 0);
        UtilityWorks z = new UtilityWorks();
        z.breaks(2, 10);
        Edges.due("a main", z.mending(1), 44);
    }

    /** Of the first four of these, by GOODS, then by STREETS. */
    static void theFirstFourLinks() {
        UtilityWorks x = watered();
        x.breaks(1, 14);
        x.breaks(0, 16);
        x.breaks(0, 15);
        x.breaks(0, 13);
        mends(x, 18, 31);
        x.breaks(2, 0);
        mends(x, 18, 31);
        x.breaks(0, 12);
        mends(x, 15);
    }

    /** The greatest WORTH: the one that helps more comes first, whatever its number. */
    static void theBetterOneFirst() {
        UtilityWorks x = Edges.quiet();
        for (int k : new int[] {0, 3, 4}) {
            x.connect(k, 0, true);
        }
        x.breaks(0, 9);
        x.breaks(0, 10);
        Edges.due("content", x.content(), 3);
        mends(x, 5 + 6 + 6, 10, 9);
        x.breaks(0, 14);
        mends(x, 4 + 5 + 6, 9, 10, 14);
        UtilityWorks y = Edges.quiet();
        for (int k : new int[] {0, 3, 4, 5}) {
            y.connect(k, 0, true);
        }
        Edges.customer(y, 5, 9, 0, 1);
        Edges.customer(y, 6, 9, 0, 1);
        for (int s : new int[] {9, 10, 11}) {
            y.breaks(0, s);
        }
        mends(y, 5 + 7 + 8, 10, 11, 9);
    }

    /** Of several the fewest LINKS, of these the first by their places; a LINE that would close a ring is OFF. */
    static void theFewestLinks() {
        UtilityWorks x = Edges.quiet();
        x.connect(0, 0, true);
        x.lay(0, 3, 60);
        x.breaks(0, 3);
        x.breaks(0, 10);
        mends(x, 18, 3);
        x.bound(0, 3, 11);
        mends(x, 18, 10);
        x.bound(0, 10, 11);
        mends(x, 15);
    }

    /** The same, where orders of more LINKS that have as much WORTH begin with a LINK of a lower place. */
    static void theFewestLinksWhereverTheyStand() {
        UtilityWorks x = new UtilityWorks();
        x.plant(6, 2);
        x.bound(0, 0, 25);
        for (int s : new int[] {0, 1, 13}) {
            x.breaks(0, s);
        }
        mends(x, 12, 1);
        UtilityWorks y = new UtilityWorks();
        for (int s : new int[] {1, 9, 12, 16}) {
            y.breaks(0, s);
        }
        mends(y, 13, 12, 16);
    }

    /** The same: which of two comes first decides which of them is ON. */
    static void theFirstOfARingIsOn() {
        UtilityWorks x = Edges.quiet();
        x.connect(0, 0, true);
        x.connect(3, 0, true);
        x.turn(0, 9, false);
        x.lay(0, 3, 60);
        x.breaks(0, 3);
        x.breaks(0, 10);
        x.breaks(0, 9);
        // with the LINE 9 and one of 3 and 10 all are fed; with 3 and 10, too
        mends(x, 5 + 6 + 6, 9, 3);
        x.bound(0, 9, 8);
        mends(x, 5 + 6 + 6, 9, 10);
        x.bound(0, 9, 7);
        mends(x, 5 + 6 + 6, 10, 3);
    }

    /** The REPORT counts since it was asked last, that part alone. */
    static void thePartsOfTheReport() {
        UtilityWorks x = new UtilityWorks();
        for (int what = 0; what < 6; what++) {
            Edges.due("at first " + what, x.report(what), 0);
        }
        x.start(0, false);
        x.start(1, false);
        x.reserve(0, 150);
        for (int c = 0; c < 12; c++) {
            x.height(c, 0);
        }
        x.weather(-25, 9, 1);
        x.pass(4);
        int[] due = {11, 7, 24, 20, 12};
        for (int what = 0; what < 5; what++) {
            Edges.due("report " + what, x.report(what), due[what]);
            Edges.due("anew " + what, x.report(what), 0);
        }
        x.pass(1);
        Edges.due("lines", x.report(0), 0);
        Edges.due("pipes", x.report(1), 0);
        Edges.due("dark", x.report(2), 6);
        Edges.due("short", x.report(3), 5);
        Edges.due("chilled", x.report(4), 3);
        Edges.due("the part that was not asked", x.report(5), 5 * 17);
        Edges.due("sound", x.isSound(), true);
    }

    /** alarm: whether there was one; weatherIs 5 tells whether there is one, whatever STORMS there are. */
    static void theAlarmIsTold() {
        UtilityWorks x = new UtilityWorks();
        Edges.due("none", x.weatherIs(5) * 10 + x.weatherIs(6), 0);
        Edges.due("alarm", x.alarm(true), false);
        Edges.due("one", x.weatherIs(5) * 10 + x.weatherIs(6), 10);
        x.storm(0, 1);
        x.storm(1, 1);
        Edges.due("with storms", x.weatherIs(5) * 10 + x.weatherIs(6), 12);
        x.pass(1);
        Edges.due("it goes on", x.weatherIs(5) * 10 + x.weatherIs(6), 12);
        Edges.due("alarm", x.alarm(false), true);
        Edges.due("ended", x.weatherIs(5) * 10 + x.weatherIs(6), 2);
    }

    /** stormIs 3: a LINE with an end under two STORMS counts for both; one broken at its other end, too. */
    static void linesUnderTwoStormsAndBesideOne() {
        UtilityWorks x = new UtilityWorks();
        x.weather(10, 0, 0);
        x.storm(0, 9);
        x.storm(1, 9);
        x.pass(1);
        Edges.due("broken", x.count(4), 3);
        Edges.due("of both", x.stormIs(0, 3) * 10 + x.stormIs(1, 3), 33);
        Edges.due("each is reported once", x.report(0), 3);
        UtilityWorks y = new UtilityWorks();
        y.weather(10, 9, 0);
        y.storm(0, 1);
        y.pass(1);
        Edges.due("all but the one between 0 and 4", y.count(4) * 10 + y.linkIs(0, 9, 2), 101);
        Edges.due("those from 0 to 1 and from 4 to 8, by the wind", y.stormIs(0, 3), 2);
    }

    public static void main(String[] args) {
        Edges.runAll(StormEdgesTest.class);
    }
}
