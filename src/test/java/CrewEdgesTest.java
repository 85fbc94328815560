/** The edges that the document names of CREWS, JOBS and STORES: promises 24 to 27. */
public final class CrewEdgesTest {
    private static final int DIG = 0;
    private static final int FILL = 1;
    private static final int MEND = 2;
    private static final int LAY = 3;
    private static final int READ = 4;
    private static final int CUT = 5;
    private static final int CONNECT = 6;

    private static void state(UtilityWorks x, int job, int due) {
        Edges.due("state of the job " + job, x.jobIs(job, 4), due);
    }

    private static void crew(UtilityWorks x, int crew, int at, int job, int spells) {
        Edges.due("crew " + crew + " is at", x.crewIs(crew, 0), at);
        Edges.due("crew " + crew + " has", x.crewIs(crew, 3), job);
        Edges.due("crew " + crew + " did spells", x.crewIs(crew, 4), spells);
    }

    /** A town on the DAY 1 whose CREWS stand, at 0 and at 1, by PIPES and MAINS that they can't MEND, undug. */
    private static UtilityWorks busy() {
        UtilityWorks x = new UtilityWorks();
        x.breaks(1, 0);
        x.breaks(2, 10);
        x.job(MEND, 1, 0, 9);
        x.job(MEND, 2, 10, 9);
        x.pass(1);
        crew(x, 0, 0, 0, 0);
        crew(x, 1, 1, 1, 0);
        return x;
    }

    /** Numbers from 0; SKILLS 1 to 31, a PACE of 1 to 4; no OVERTIME at first. */
    static void crewsOfAllKinds() {
        UtilityWorks x = new UtilityWorks();
        Edges.due("crew", x.crew(11, 1, 1), 2);
        Edges.due("crew", x.crew(0, 31, 4), 3);
        int[][] due = {{11, 1, 1, -1, 0, 0, 0}, {0, 31, 4, -1, 0, 0, 0}};
        for (int k = 0; k < 2; k++) {
            for (int what = 0; what < 7; what++) {
                Edges.due("of " + k + ", " + what, x.crewIs(2 + k, what), due[k][what]);
            }
        }
        Edges.refused("one more", Edges.NO_STATE, () -> x.crew(0, 31, 4));
        x.pass(1);
        Edges.due("wages", x.spent(0), 400);
    }

    /** It wants the SKILL of its GOOD for MEND and LAY, digging for DIG and FILL, that for CUSTOMERS for the others. */
    static void theSkillForEachKind() {
        int[][] rows = {{DIG, 0, 3}, {DIG, 2, 3}, {FILL, 0, 3}, {MEND, 0, 0}, {MEND, 1, 1}, {MEND, 2, 2}, {LAY, 0, 0},
            {LAY, 1, 1}, {LAY, 2, 2}, {READ, 0, 4}, {CUT, 0, 4}, {CONNECT, 0, 4}};
        for (int[] r : rows) {
            for (int skill = 0; skill < 5; skill++) {
                UtilityWorks x = new UtilityWorks();
                x.crew(9, 1 << skill, 1);
                x.crew(9, 31 - (1 << skill), 1);
                x.job(r[0], r[1], 4, 0);
                Edges.due("kind " + r[0] + " of " + r[1] + " by the skill " + skill, x.nextJob(2), skill == r[2] ? 0 : -1);
                Edges.due("by all others", x.nextJob(3), skill == r[2] ? -1 : 0);
            }
        }
    }

    /** The one of the greatest URGENCY, of like ones that with the fewest STREETS to go, then the lowest number. */
    static void theJobThatIsTaken() {
        UtilityWorks x = new UtilityWorks();
        Edges.due("no job", x.nextJob(0), -1);
        x.job(FILL, 0, 2, 0);
        Edges.due("the only one", x.nextJob(0), 0);
        x.job(FILL, 0, 1, 0);
        Edges.due("the nearer one", x.nextJob(0), 1);
        x.job(FILL, 0, 1, 0);
        Edges.due("the lower number", x.nextJob(0), 1);
        x.job(FILL, 0, 8, 1);
        Edges.due("the more urgent one", x.nextJob(0), 3);
        x.job(FILL, 0, 8, 9);
        Edges.due("the most urgent one", x.nextJob(0), 4);
        x.dropJob(4);
        x.dropJob(3);
        x.dropJob(1);
        Edges.due("the next number", x.nextJob(0), 2);
        x.dropJob(2);
        Edges.due("the last one", x.nextJob(0), 0);
        x.dropJob(0);
        Edges.due("none", x.nextJob(0), -1);
        x.pass(1);
        Edges.due("nor is one taken", x.crewIs(0, 3), -1);
    }

    /** To whose SPOT there is a WAY, or it is there. */
    static void onlyWhereThereIsAWay() {
        UtilityWorks x = new UtilityWorks();
        Edges.dig(x, 0);
        Edges.dig(x, 9);
        x.breaks(0, 1);
        x.job(MEND, 0, 1, 9);
        Edges.due("no way", x.nextJob(0), -1);
        x.job(MEND, 0, 9, 0);
        Edges.due("it is there", x.nextJob(0), 1);
        x.pass(1);
        state(x, 0, 0);
        state(x, 1, 2);
    }

    /** nextJob: with the STREETS that are FLOODED on the next DAY; the JOB that it has. */
    static void nextJobOfTheNextDay() {
        UtilityWorks x = new UtilityWorks();
        x.height(0, 17);
        x.height(1, 17);
        x.height(4, 17);
        x.breaks(0, 1);
        x.job(MEND, 0, 1, 5);
        x.weather(10, 0, 9);
        Edges.due("flooded then", x.nextJob(0), -1);
        Edges.due("not yet", x.count(8), 0);
        x.pass(1);
        Edges.due("flooded now", x.count(8) > 0, true);
        Edges.due("so it was", x.crewIs(0, 3), -1);
        x.weather(10, 0, 8);
        Edges.due("not flooded then", x.nextJob(0), 0);
        x.draws(1);
        Edges.due("nor by the rain that is drawn: 0", x.nextJob(0), 0);
        x.pass(1);
        Edges.due("so it was", x.crewIs(0, 3), 0);
        x.job(MEND, 0, 1, 9);
        Edges.due("the job that it has", x.nextJob(0), 0);
    }

    /** nextJob: the weather is drawn, if it is to be: the RAIN of the SEED that comes. */
    static void nextJobByTheRainThatIsDrawn() {
        for (int k = 1; k <= 12; k++) {
            for (int less = 0; less < 2; less++) {
                int rain = (k - less) % 10;
                int before = seedAhead(310 * k - less);
                UtilityWorks x = new UtilityWorks();
                x.breaks(0, 1);
                x.job(MEND, 0, 1, 5);
                x.draws(before);
                for (int c : new int[] {0, 1, 4}) {
                    x.height(c, 2 * rain);
                }
                Edges.due("dry at twice the rain of " + (310 * k - less), x.nextJob(0), 0);
                for (int c : new int[] {0, 1, 4}) {
                    x.height(c, Math.max(0, 2 * rain - 1));
                }
                Edges.due("flooded below it", x.nextJob(0), rain == 0 ? 0 : -1);
                x.pass(1);
                Edges.due("so it was", x.crewIs(0, 3), rain == 0 ? 0 : -1);
                Edges.due("the rain", x.weatherIs(2), rain);
            }
        }
    }

    private static int seedAhead(int next) {
        int seed = 0;
        while ((75 * seed + 74) % 65537 != next) {
            seed++;
        }
        return seed;
    }

    /** nextJob: with the STREETS that are DUG now, whatever was asked ahead of it. */
    static void nextJobRoundADugStreet() {
        UtilityWorks x = new UtilityWorks();
        Edges.dig(x, 0);
        x.job(FILL, 0, 1, 0);
        x.job(FILL, 0, 3, 0);
        x.joined(0, 0, 1);
        Edges.due("the way to 1 has three streets", x.nextJob(0), 1);
        x.hire(0, false);
        x.joined(2, 11, 0);
        Edges.due("now it has one", x.nextJob(0), 0);
    }

    /** By so many STREETS as its PACE at most; a SPELL on the DAY on which it is there. */
    static void itGoesByItsPace() {
        int[] path = {3, 2, 1, 0, 4};
        for (int pace = 1; pace <= 4; pace++) {
            UtilityWorks x = busy();
            x.crew(3, 8, pace);
            x.job(FILL, 0, 13, 0);
            for (int day = 1; day <= 4; day++) {
                x.pass(1);
                Edges.due("pace " + pace + ", day " + day, x.crewIs(2, 0), path[Math.min(4, day * pace)]);
                Edges.due("done", x.crewIs(2, 6), day * pace >= 4 ? 1 : 0);
            }
        }
    }

    /** Without a WAY it stays where it is. */
    static void itStaysWithoutAWay() {
        UtilityWorks x = new UtilityWorks();
        x.breaks(0, 16);
        x.job(MEND, 0, 16, 9);
        x.pass(1);
        crew(x, 0, 2, 0, 0);
        Edges.dig(x, 2);
        Edges.dig(x, 1);
        Edges.dig(x, 11);
        x.pass(2);
        crew(x, 0, 2, 0, 0);
        Edges.due("its job is its own", x.jobIs(0, 5), 0);
        x.hire(11, false);
        x.pass(1);
        crew(x, 0, 7, 0, 1);
        Edges.due("wages as of one at work", x.spent(0), 4 * 300);
    }

    /** It takes so many SPELLS: 1, 1, 2, 3, 1, 1, 1. */
    static void spellsOfEachKind() {
        int[] spells = {1, 1, 2, 3, 1, 1, 1};
        for (int kind = 0; kind < 7; kind++) {
            UtilityWorks x = new UtilityWorks();
            int crew = kind <= LAY ? 0 : 1;
            x.permit(0, 0, 0, 9);
            if (kind == FILL) {
                x.hire(0, true);
            }
            x.breaks(0, 0);
            if (kind == CONNECT) {
                x.job(CUT, 0, 0, 9);
                x.pass(1);
            }
            int done = x.crewIs(crew, 6);
            int job = x.job(kind, 0, kind == LAY ? 3 : 0, 9);
            for (int k = 1; k <= spells[kind]; k++) {
                state(x, job, k == 1 ? 0 : 1);
                x.pass(1);
                Edges.due("spells of kind " + kind, x.crewIs(crew, 4), k < spells[kind] ? k : 0);
            }
            state(x, job, 2);
            Edges.due("done by", x.jobIs(job, 5), crew);
            Edges.due("how many", x.crewIs(crew, 6), done + 1);
            Edges.due("no job", x.crewIs(crew, 3), -1);
        }
    }

    /** With OVERTIME two of them, one behind the other; not of another JOB on the same DAY. */
    static void overtimeIsTwoSpells() {
        UtilityWorks x = new UtilityWorks();
        x.overtime(0, true);
        x.breaks(0, 0);
        x.job(MEND, 0, 0, 9);
        x.job(FILL, 0, 9, 5);
        x.pass(1);
        state(x, 0, 2);
        state(x, 1, 2);
        Edges.due("the other one by the other crew", x.jobIs(1, 5), 1);
        x.job(FILL, 0, 0, 9);
        x.breaks(2, 10);
        x.dropJob(x.job(FILL, 0, 0, 9));
        x.job(MEND, 0, 9, 0);
        x.pass(1);
        state(x, 2, 2);
        state(x, 4, 0);
        int lay = x.job(LAY, 0, 3, 9);
        x.pass(1);
        state(x, lay, 1);
        Edges.due("two of three", x.crewIs(0, 4), 2);
        x.pass(1);
        state(x, lay, 2);
        Edges.due("bound", x.linkIs(0, 3, 1), 40);
    }

    /** WAGE: 100, if it has had no JOB on this DAY, otherwise 200, with OVERTIME 500. */
    static void wages() {
        UtilityWorks x = new UtilityWorks();
        x.pass(1);
        Edges.due("no jobs", x.spent(0), 200);
        x.overtime(0, true);
        x.pass(1);
        Edges.due("overtime without a job", x.spent(0), 400);
        x.job(FILL, 0, 0, 9);
        x.pass(1);
        Edges.due("overtime with a job that was done", x.spent(0), 1000);
        x.overtime(0, false);
        x.job(FILL, 0, 0, 9);
        x.pass(1);
        Edges.due("a job that was done", x.spent(0), 1300);
        x.job(DIG, 0, 3, 9);
        x.pass(1);
        Edges.due("a job that lacks something", x.spent(0), 1600);
        x.leave(0);
        x.dropJob(2);
        x.pass(1);
        Edges.due("no jobs", x.spent(0), 1800);
        Edges.due("from the money", x.journal(0), 100000 - 1800);
    }

    /** overtime: whether it did; not at first. */
    static void overtimeOrNot() {
        UtilityWorks x = new UtilityWorks();
        Edges.due("not at first", x.overtime(1, true), false);
        Edges.due("it did", x.overtime(1, true), true);
        Edges.due("it does", x.crewIs(1, 5) * 10 + x.crewIs(0, 5), 10);
        Edges.due("it did", x.overtime(1, false), true);
        Edges.due("it did not", x.overtime(1, false), false);
        Edges.due("it does not", x.crewIs(1, 5), 0);
    }

    /** DIG lacks something, if there is no PERMIT of today for the GOOD there; SHARED ones are for these, too. */
    static void digByAPermitOfToday() {
        UtilityWorks x = new UtilityWorks();
        x.permit(1, 9, 2, 2);
        x.job(DIG, 1, 9, 9);
        x.pass(2);
        Edges.due("not ahead of its first day", x.streetIs(9, 3), 0);
        crew(x, 0, 0, 0, 0);
        x.pass(1);
        Edges.due("on its first day", x.streetIs(9, 3), 1);
        state(x, 0, 2);
        x.hire(9, false);
        x.job(DIG, 1, 9, 9);
        x.pass(1);
        Edges.due("on its last day", x.streetIs(9, 3), 1);
        x.hire(9, false);
        x.job(DIG, 1, 9, 9);
        x.pass(1);
        Edges.due("not behind it", x.streetIs(9, 3), 0);
        x.permit(0, 9, 5, 9);
        x.pass(1);
        Edges.due("not for another good", x.streetIs(9, 3), 0);
        x.share(0, 2);
        x.pass(1);
        Edges.due("nor shared by another one", x.streetIs(9, 3), 0);
        x.share(0, 1);
        x.pass(1);
        Edges.due("shared by it", x.streetIs(9, 3), 1);
    }

    /** MEND of WATER or HEAT lacks something, if the STREET is not DUG, at each SPELL; not of POWER. */
    static void mendInAnOpenStreet() {
        UtilityWorks x = new UtilityWorks();
        x.breaks(1, 0);
        x.job(MEND, 1, 0, 9);
        x.pass(1);
        crew(x, 0, 0, 0, 0);
        Edges.due("no part is taken", x.storeIs(1, 0), 4);
        Edges.dig(x, 0);
        x.pass(1);
        crew(x, 0, 0, 0, 1);
        Edges.due("one is", x.storeIs(1, 0), 3);
        x.hire(0, false);
        x.pass(2);
        crew(x, 0, 0, 0, 1);
        Edges.dig(x, 0);
        x.pass(1);
        state(x, 0, 2);
        Edges.due("sound", x.linkIs(1, 0, 2), 1);
        Edges.due("no more parts", x.storeIs(1, 0), 3);
        x.hire(0, false);
        x.breaks(0, 0);
        x.job(MEND, 0, 0, 9);
        x.pass(2);
        Edges.due("a line in a street that is not dug", x.linkIs(0, 0, 2), 1);
    }

    /** LAY of WATER or HEAT likewise; there is a LINK with a BOUND of 40, SOUND and OFF. */
    static void layInAnOpenStreet() {
        for (int good = 1; good < 3; good++) {
            UtilityWorks x = new UtilityWorks();
            x.job(LAY, good, 3, 9);
            x.pass(2);
            Edges.due("no spell", x.crewIs(good - 1, 4), 0);
            state(x, 0, 1);
            Edges.dig(x, 3);
            x.pass(2);
            Edges.due("two spells", x.crewIs(good - 1, 4), 2);
            Edges.due("no link yet", x.linkIs(good, 3, 0), 0);
            x.pass(1);
            int[] link = {1, 40, 1, 0, 0};
            for (int what = 0; what < 5; what++) {
                Edges.due("link " + what, x.linkIs(good, 3, what), link[what]);
            }
            Edges.due("two parts", x.storeIs(good, 4), 2);
        }
    }

    /** Ahead of the first SPELL, if there are fewer PARTS of the GOOD in STOCK than 1 for MEND. */
    static void mendWantsAPart() {
        UtilityWorks x = new UtilityWorks();
        x.breaks(0, 0);
        int job = x.job(MEND, 0, 0, 9);
        for (int stock = 3; stock >= 0; stock--) {
            x.pass(1);
            Edges.due("taken with the first spell", x.storeIs(0, 0), stock);
            Edges.due("a spell", x.crewIs(0, 4), 1);
            Edges.due("leave", x.leave(0), job);
            Edges.due("they are not given back", x.storeIs(0, 0), stock);
        }
        x.pass(2);
        crew(x, 0, 0, job, 0);
        x.order(0, 1);
        x.pass(6);
        crew(x, 0, 0, job, 0);
        Edges.due("the stores come behind the crews", x.storeIs(0, 0), 1);
        x.pass(1);
        crew(x, 0, 0, job, 1);
        Edges.due("the last one", x.storeIs(0, 0), 0);
        x.pass(1);
        Edges.due("the second spell takes none", x.linkIs(0, 0, 2), 1);
        Edges.due("sound", x.isSoundCrews(), true);
    }

    /** The same: fewer than 2 for LAY. */
    static void layWantsTwoParts() {
        UtilityWorks x = new UtilityWorks();
        x.breaks(0, 0);
        x.job(MEND, 0, 0, 9);
        for (int k = 0; k < 3; k++) {
            x.pass(1);
            x.leave(0);
        }
        x.dropJob(0);
        Edges.due("one is left", x.storeIs(0, 0), 1);
        int job = x.job(LAY, 0, 3, 9);
        x.order(0, 1);
        x.pass(6);
        crew(x, 0, 4, job, 0);
        Edges.due("none is taken", x.storeIs(0, 0), 2);
        x.pass(1);
        crew(x, 0, 4, job, 1);
        Edges.due("both are", x.storeIs(0, 0), 0);
        x.pass(2);
        state(x, job, 2);
    }

    /** A SPELL of a JOB that has nothing to do makes it DONE, and takes no PARTS. */
    static void nothingToDoIsDone() {
        UtilityWorks x = new UtilityWorks();
        x.connect(0, 0, false);
        x.connect(0, 1, false);
        x.connect(0, 2, false);
        Edges.dig(x, 9);
        x.overtime(0, true);
        x.overtime(1, true);
        int[][] jobs = {{DIG, 2, 9}, {FILL, 0, 0}, {MEND, 0, 0}, {MEND, 1, 9}, {LAY, 0, 0}, {LAY, 1, 0}, {MEND, 0, 3},
            {MEND, 2, 10}, {LAY, 2, 10}, {CUT, 0, 0}, {CONNECT, 0, 0}};
        for (int k = 0; k < jobs.length; k++) {
            x.job(jobs[k][0], jobs[k][1], jobs[k][2], 0);
        }
        x.pass(9);
        for (int k = 0; k < jobs.length; k++) {
            state(x, k, 2);
        }
        Edges.due("a job a day, with overtime, too", x.crewIs(0, 6) + x.crewIs(1, 6), jobs.length);
        Edges.due("not filled", x.streetIs(0, 6), -1);
        Edges.due("no parts", x.storeIs(0, 4) + x.storeIs(1, 4) + x.storeIs(2, 4), 0);
    }

    /** One JOB is DONE on a DAY at most: a CREW takes one, if it is without one, once a DAY. */
    static void aJobADay() {
        UtilityWorks x = busy();
        x.crew(0, 8, 4);
        for (int k = 0; k < 4; k++) {
            x.job(FILL, 0, 0, 0);
        }
        for (int k = 0; k < 4; k++) {
            x.pass(1);
            Edges.due("done", x.crewIs(2, 6), k + 1);
            state(x, 2 + k, 2);
        }
    }

    /** READ: the METERS of all GOODS have a RIGHT READING. */
    static void readTheMetersOfAllGoods() {
        UtilityWorks x = new UtilityWorks();
        x.pass(3);
        x.job(READ, 0, 4, 0);
        x.pass(1);
        int[] counted = {12, 9, 0};
        for (int good = 0; good < 3; good++) {
            Edges.due("read on", x.meterIs(4, good, 4), 3);
            Edges.due("right", x.meterIs(4, good, 5), 1);
            Edges.due("counted", x.meterIs(4, good, 3), counted[good]);
            for (int other : new int[] {0, 1, 2, 3, 5}) {
                Edges.due("of others", x.meterIs(other, good, 4), -1);
            }
        }
    }

    /** MEND: the LINK is SOUND, and ON or OFF as it was. */
    static void mendLeavesItOnOrOff() {
        UtilityWorks x = new UtilityWorks();
        x.bound(0, 9, 33);
        x.turn(0, 9, false);
        x.breaks(0, 9);
        x.job(MEND, 0, 9, 0);
        x.pass(2);
        Edges.due("sound", x.linkIs(0, 9, 2), 1);
        Edges.due("off", x.linkIs(0, 9, 3), 0);
        Edges.due("bound", x.linkIs(0, 9, 1), 33);
    }

    /** leave: it stays where it is; the JOB WAITS again, with no SPELL done. */
    static void leaveAJob() {
        UtilityWorks x = new UtilityWorks();
        x.job(LAY, 0, 5, 9);
        x.pass(2);
        crew(x, 0, 6, 0, 1);
        Edges.due("leave", x.leave(0), 0);
        crew(x, 0, 6, -1, 0);
        state(x, 0, 0);
        Edges.due("nobody has it", x.jobIs(0, 5), -1);
        Edges.due("two parts are gone", x.storeIs(0, 0), 2);
        x.pass(2);
        crew(x, 0, 6, 0, 2);
        Edges.due("two more", x.storeIs(0, 0), 0);
        x.pass(1);
        state(x, 0, 2);
    }

    /** dropJob: how many are not over still; a CREW that has it has none then. */
    static void dropAJob() {
        UtilityWorks x = new UtilityWorks();
        x.job(LAY, 0, 5, 9);
        x.job(LAY, 0, 4, 9);
        x.pass(2);
        Edges.due("the nearer one is taken", x.crewIs(0, 3), 1);
        Edges.due("one left", x.dropJob(1), 1);
        state(x, 1, 3);
        Edges.due("nobody has it", x.jobIs(1, 5), -1);
        Edges.due("no job", x.crewIs(0, 3) * 10 + x.crewIs(0, 4), -10);
        Edges.due("one that waits", x.dropJob(0), 0);
        state(x, 0, 3);
        x.pass(3);
        state(x, 0, 3);
        Edges.due("sound", x.isSoundCrews(), true);
    }

    /** Two CREWS take two JOBS: the one with the lower number takes first. */
    static void noJobTwice() {
        UtilityWorks x = new UtilityWorks();
        x.crew(4, 8, 1);
        x.job(FILL, 0, 14, 5);
        x.job(FILL, 0, 9, 4);
        x.pass(1);
        Edges.due("by the first crew", x.jobIs(0, 5), 0);
        Edges.due("by the second crew", x.jobIs(1, 5), 1);
        Edges.due("none is left for the third", x.crewIs(2, 3), -1);
        Edges.due("sound", x.isSoundCrews(), true);
    }

    /** STORES at first: STOCK, LEAST, price. */
    static void storesAtFirst() {
        UtilityWorks x = new UtilityWorks();
        int[][] due = {{4, 0, 0, 400, 0, 0, 0}, {4, 0, 0, 250, 0, 0, 0}, {2, 0, 0, 600, 0, 0, 0}, {200, 0, 0, 5, 0, 0, 0}};
        for (int part = 0; part < 4; part++) {
            for (int what = 0; what < 7; what++) {
                Edges.due("part " + part + ", " + what, x.storeIs(part, what), due[part][what]);
            }
        }
        Edges.due("spent", x.spent(0) + x.spent(1), 0);
    }

    /** An ORDER comes with the STORES of the fifth DAY behind that on which it was made. */
    static void ordersComeOnTheFifthDay() {
        UtilityWorks x = new UtilityWorks();
        x.pass(2);
        Edges.due("order", x.order(0, 1), 400);
        Edges.due("order", x.order(0, 99), 39600);
        x.pass(5);
        Edges.due("not yet", x.storeIs(0, 0) * 1000 + x.storeIs(0, 1), 4100);
        x.pass(1);
        Edges.due("come", x.storeIs(0, 0) * 1000 + x.storeIs(0, 1), 104000);
        Edges.due("came in all", x.storeIs(0, 5), 100);
        Edges.due("spent", x.spent(1), 40000);
    }

    /** The STOCK is 999 at most, what is more is gone. */
    static void aStockOf999() {
        UtilityWorks x = new UtilityWorks();
        for (int k = 0; k < 8; k++) {
            x.order(3, 99);
        }
        x.pass(6);
        Edges.due("stock", x.storeIs(3, 0), 992);
        x.order(3, 7);
        x.pass(6);
        Edges.due("just full", x.storeIs(3, 0), 999);
        Edges.due("none is gone", x.storeIs(3, 6), 0);
        x.order(3, 1);
        x.pass(6);
        Edges.due("full", x.storeIs(3, 0), 999);
        Edges.due("one is gone", x.storeIs(3, 6), 1);
        Edges.due("came in all", x.storeIs(3, 5), 800);
        x.coal(0, 1);
        x.order(3, 3);
        x.pass(6);
        Edges.due("full", x.storeIs(3, 0), 999);
        Edges.due("two more are gone", x.storeIs(3, 6), 3);
        Edges.due("sound", x.isSoundCrews(), true);
    }

    /** least: 0 to 99; storeIs tells it. */
    static void theLeastOfEachPart() {
        UtilityWorks x = new UtilityWorks();
        for (int part = 0; part < 4; part++) {
            Edges.due("at first", x.least(part, 99), 0);
            Edges.due("told", x.storeIs(part, 2), 99);
            Edges.due("what it was", x.least(part, part), 99);
            Edges.due("told", x.storeIs(part, 2), part);
            Edges.due("nothing is ordered yet", x.storeIs(part, 1), 0);
        }
        Edges.due("nothing is spent yet", x.spent(1), 0);
    }

    /** Fewer than its LEAST: so many are ordered that they are twice its LEAST. */
    static void belowTheLeast() {
        UtilityWorks x = new UtilityWorks();
        x.least(0, 4);
        x.pass(1);
        Edges.due("as many as the least", x.storeIs(0, 1), 0);
        x.least(0, 5);
        x.pass(1);
        Edges.due("one fewer", x.storeIs(0, 1), 6);
        x.pass(1);
        Edges.due("what is ordered counts", x.storeIs(0, 1), 6);
        x.least(0, 10);
        x.pass(1);
        Edges.due("as many together", x.storeIs(0, 1), 6);
        x.least(0, 11);
        x.pass(1);
        Edges.due("one fewer together", x.storeIs(0, 1), 18);
        x.least(0, 0);
        x.pass(6);
        Edges.due("all have come", x.storeIs(0, 0), 22);
        UtilityWorks y = new UtilityWorks();
        y.coal(0, 200);
        y.pass(1);
        Edges.due("none, and a least of 0", y.storeIs(3, 1), 0);
        y.least(3, 99);
        y.pass(1);
        Edges.due("twice 99", y.storeIs(3, 1), 198);
    }

    /** If there are fewer than 8 ORDERS; first the ORDERS that are due come; PARTS by numbers. */
    static void leastsWithin8Orders() {
        UtilityWorks x = new UtilityWorks();
        for (int k = 0; k < 7; k++) {
            x.order(3, 1);
        }
        for (int part = 0; part < 3; part++) {
            x.least(part, 5);
        }
        x.pass(1);
        Edges.due("the first part alone", x.storeIs(0, 1) * 100 + x.storeIs(1, 1) * 10 + x.storeIs(2, 1), 600);
        x.pass(4);
        Edges.due("8 have not come", x.storeIs(0, 1) * 100 + x.storeIs(1, 1) * 10 + x.storeIs(2, 1), 600);
        x.pass(1);
        Edges.due("as they have come", x.storeIs(0, 1) * 100 + x.storeIs(1, 1) * 10 + x.storeIs(2, 1), 68);
        Edges.due("the first one has come, too", x.storeIs(0, 0), 10);
    }

    /** And the MONEY is no less than what it costs. */
    static void leastsWithinTheMoney() {
        for (int missing = 0; missing <= 1; missing++) {
            UtilityWorks x = new UtilityWorks();
            x.least(0, 5);
            x.least(1, 5);
            x.fund(100000 - 200 - 2400 + missing);
            x.pass(1);
            Edges.due("the first part", x.storeIs(0, 1), missing == 0 ? 6 : 0);
            Edges.due("the second, cheaper one", x.storeIs(1, 1), missing == 0 ? 0 : 6);
        }
    }

    /** With its last SPELL a JOB does what its KIND is, and no more. */
    static void aJobDoesNoMore() {
        UtilityWorks x = new UtilityWorks();
        Edges.dig(x, 0);
        x.breaks(0, 0);
        x.breaks(1, 0);
        x.job(FILL, 0, 0, 9);
        x.pass(1);
        Edges.due("filled", x.streetIs(0, 3), 0);
        Edges.due("the links are broken still", x.linkIs(0, 0, 2) + x.linkIs(1, 0, 2), 0);
        x.permit(0, 0, 1, 1);
        x.job(DIG, 0, 0, 9);
        x.pass(1);
        Edges.due("dug", x.streetIs(0, 3), 1);
        Edges.due("filled last", x.streetIs(0, 6), 0);
        x.job(MEND, 1, 0, 9);
        x.pass(2);
        Edges.due("mended", x.linkIs(1, 0, 2) * 1000 + x.linkIs(1, 0, 1), 1040);
        Edges.due("the other one is broken still", x.linkIs(0, 0, 2), 0);
        Edges.due("dug still", x.streetIs(0, 3), 1);
        x.job(LAY, 0, 3, 9);
        x.job(READ, 0, 3, 0);
        x.dropJob(4);
        x.pass(5);
        Edges.due("laid", x.linkIs(0, 3, 0), 1);
        for (int customer = 0; customer < 6; customer++) {
            Edges.due("nothing was read", x.meterIs(customer, 0, 4), -1);
        }
        x.job(READ, 0, 3, 9);
        x.pass(2);
        Edges.due("read", x.meterIs(3, 0, 5), 1);
        Edges.due("connected as it was", x.customerIs(3, 2), 7);
    }

    /** nextJob tells the JOB that a CREW has, in an ALARM, too; one without a JOB would take one to MEND. */
    static void nextJobInAnAlarm() {
        UtilityWorks x = new UtilityWorks();
        x.job(LAY, 0, 3, 9);
        x.pass(1);
        crew(x, 0, 4, 0, 1);
        x.breaks(0, 9);
        x.job(MEND, 0, 9, 0);
        x.alarm(true);
        Edges.due("the job that it has", x.nextJob(0), 0);
        x.leave(0);
        Edges.due("the one that it would take", x.nextJob(0), 1);
        x.alarm(false);
        Edges.due("without an alarm", x.nextJob(0), 0);
    }

    /** By its PACE, with OVERTIME, too; a WAY has up to 11 STREETS. */
    static void theLongestWayByItsPace() {
        for (int overtime = 0; overtime < 2; overtime++) {
            UtilityWorks x = new UtilityWorks();
            for (int s : new int[] {9, 10, 11, 14, 15, 16}) {
                Edges.dig(x, s);
            }
            x.breaks(0, 9);
            x.alarm(true);
            int crew = x.crew(11, 1, 3);
            x.job(MEND, 0, 9, 9);
            x.overtime(crew, overtime == 1);
            Edges.due("the crew 0 is there already", x.crewIs(0, 0), 0);
            Edges.due("eleven streets", x.way(11, 0), 11);
            x.job(MEND, 0, 0, 0);
            Edges.due("the crew 0 takes the more urgent one", x.nextJob(0), 0);
            int[] at = {8, 6, 2, 0};
            x.breaks(0, 0);
            for (int day = 0; day < 4; day++) {
                x.pass(1);
                Edges.due("the other one on the day " + day, x.crewIs(crew, 0), at[day]);
            }
            Edges.due("a spell on the day on which it is there", x.crewIs(crew, 4) + 2 * x.crewIs(crew, 6), 1 + overtime);
        }
    }

    public static void main(String[] args) {
        Edges.runAll(CrewEdgesTest.class);
    }
}
