/** The edges that the document names of TARIFFS, BILLS, PLANS and the JOURNAL: promises 20 to 23. */
public final class BooksEdgesTest {
    /** A quiet town in which the CUSTOMER 5, of the RANK 4, has 7 of POWER a DAY, and nobody else anything. */
    private static UtilityWorks one() {
        UtilityWorks x = Edges.quiet();
        x.connect(5, 0, true);
        return x;
    }

    /** What its first BILL, of 29 estimated DAYS, comes to. */
    private static final long FIRST = 300 + 100 * 20 + (29 * 7 - 100) * 30;

    private static UtilityWorks billed() {
        UtilityWorks x = one();
        x.pass(30);
        Edges.due("the first bill", x.owes(5), FIRST);
        return x;
    }

    /** Pays so that so much is owed. */
    private static void leave(UtilityWorks x, int customer, long cents) {
        while (x.owes(customer) > cents) {
            x.pay(customer, (int) Math.min(99999, x.owes(customer) - cents));
        }
        Edges.due("left", x.owes(customer), cents);
    }

    private static void tariff(UtilityWorks x, int good, int base, int price, int step, int dear) {
        x.tariff(good, 0, base);
        x.tariff(good, 1, price);
        x.tariff(good, 2, step);
        x.tariff(good, 3, dear);
    }

    /** BILL DAYS are 29, 59, 89 and so on. */
    static void billDays() {
        UtilityWorks x = one();
        int[][] rows = {{29, 0}, {30, 1}, {59, 1}, {60, 2}, {89, 2}, {90, 3}, {119, 3}, {120, 4}};
        for (int[] r : rows) {
            Edges.passTo(x, r[0]);
            Edges.due("bills on " + r[0], x.bills(5), r[1]);
        }
        for (int b = 0; b < 4; b++) {
            Edges.due("day of the bill " + b, x.billIs(5, b, 0), 29 + 30 * b);
        }
        Edges.due("one who owes nothing has bills, too", x.bills(0), 4);
        Edges.due("of nothing", x.billIs(0, 0, 6), 0);
    }

    /** What was METERED beyond the STEP is times the DEAR price. */
    static void beyondTheStep() {
        UtilityWorks x = one();
        x.pass(10);
        int[][] rows = {{0, 70 * 30}, {69, 69 * 20 + 30}, {70, 70 * 20}, {71, 70 * 20}, {999, 70 * 20}, {1, 20 + 69 * 30}};
        for (int[] r : rows) {
            x.tariff(0, 2, r[0]);
            Edges.due("step " + r[0], x.billNow(5), 300 + r[1]);
        }
        tariff(x, 0, 0, 0, 100, 999);
        Edges.due("free up to the step", x.billNow(5), 0);
        tariff(x, 0, 9999, 999, 0, 999);
        Edges.due("the dearest", x.billNow(5), 9999 + 70 * 999);
        x.pass(20);
        Edges.due("as it is billed", x.billIs(5, 0, 1), 9999 + 29 * 7 * 999);
    }

    /** METERED may be below 0: all of it times the PRICE then. */
    static void meteredBelow0() {
        UtilityWorks x = one();
        x.unseal(5, 0);
        x.slow(5, 0, 90);
        x.pass(30);
        Edges.due("estimated", x.owes(5), FIRST);
        Edges.due("read", x.read(5, 0), 21);
        Edges.due("21 less 203", x.billNow(5), 300 - 182 * 20);
        x.tariff(0, 2, 0);
        Edges.due("with a step of 0", x.billNow(5), 300 - 182 * 20);
        x.pass(30);
        Edges.due("item", x.billIs(5, 1, 1), 300 - 182 * 20);
        Edges.due("sum", x.billIs(5, 1, 6), -3340);
        Edges.due("nothing of it is open", x.billIs(5, 1, 7), 0);
        Edges.due("it pays the first one", x.billIs(5, 0, 7), FIRST + FIRST / 100 - 3340);
        Edges.due("earned", x.journal(3), FIRST + FIRST / 100 - 3340);
        Edges.due("sound", x.isSoundBooks(), true);
    }

    /** A SUM of 0, or below: nothing is OPEN; what is below 0 is CREDIT. */
    static void aSumOf0OrBelow() {
        UtilityWorks x = one();
        tariff(x, 0, 0, 0, 0, 0);
        x.poor(5, true);
        x.fund(100);
        x.pass(28);
        x.start(0, false);
        x.start(1, false);
        x.keep(0);
        x.start(0, true);
        x.pass(2);
        Edges.due("sum", x.billIs(5, 0, 6), 0);
        Edges.due("open", x.billIs(5, 0, 7), 0);
        Edges.due("gift", x.billIs(5, 0, 5), 0);
        Edges.due("owes", x.owes(5), 0);
        x.bring(0);
        x.pass(2);
        Edges.due("two dry days", x.billIs(5, 0, 4), 100);
        Edges.due("sum", x.billIs(5, 0, 6), -100);
        Edges.due("open", x.billIs(5, 0, 7), 0);
        Edges.due("gift", x.billIs(5, 0, 5), 0);
        Edges.due("credit", x.owes(5), -100);
        Edges.due("the fund stays", x.journal(2), 100);
        x.tariff(0, 0, 30);
        x.start(0, true);
        x.pass(30);
        Edges.due("the credit pays the next one", x.billIs(5, 1, 7), 0);
        Edges.due("half of 30 is a gift, the rest is paid by credit", x.owes(5), -85);
        Edges.due("owed", x.journal(1), -85);
        Edges.due("sound", x.isSoundBooks(), true);
    }

    /** An ESTIMATED READING is made first, unless a RIGHT one was made since the latest BILL, or it is not CONNECTED. */
    static void estimatedIfNotRead() {
        UtilityWorks x = one();
        x.pass(1);
        x.read(5, 0);
        x.pass(29);
        Edges.due("read on the day 1", x.meterIs(5, 0, 4), 1);
        Edges.due("metered", x.billIs(5, 0, 1), 300 + 7 * 20);
        x.pass(30);
        Edges.due("estimated on the day 59", x.meterIs(5, 0, 4) * 10 + x.meterIs(5, 0, 5), 590);
        Edges.due("metered", x.billIs(5, 1, 1), 300 + 100 * 20 + (58 * 7 - 100) * 30);
        x.connect(5, 0, false);
        x.pass(30);
        Edges.due("not connected", x.meterIs(5, 0, 4), 59);
        Edges.due("no base, nothing metered", x.billIs(5, 2, 1), 0);
        x.read(5, 0);
        x.pass(30);
        Edges.due("read though not connected", x.billIs(5, 3, 1), 20 * (60 * 7 - 59 * 7));
        Edges.due("goods that it never had", x.meterIs(5, 1, 4), -1);
    }

    /** The same: a READING on the BILL DAY counts, one behind it is for the next BILL. */
    static void aReadingOfTheBillDay() {
        UtilityWorks x = one();
        x.pass(29);
        x.read(5, 0);
        x.pass(1);
        Edges.due("right", x.meterIs(5, 0, 5), 1);
        Edges.due("metered", x.billIs(5, 0, 1), FIRST);
        x.read(5, 0);
        x.pass(29);
        Edges.due("the next one", x.billNow(5), 300 + 7 * 20);
        x.pass(1);
        Edges.due("the next one", x.billIs(5, 1, 6), 300 + 7 * 20);
        Edges.due("read on", x.meterIs(5, 0, 4), 30);
    }

    /** billNow: with the READINGS that it would make; nothing changes. */
    static void billNowChangesNothing() {
        UtilityWorks x = one();
        Edges.due("on the first day", x.billNow(5), 300);
        Edges.due("of one with nothing", x.billNow(0), 0);
        x.pass(29);
        Edges.due("on the bill day", x.billNow(5), FIRST);
        Edges.due("counted", x.meterIs(5, 0, 3), 0);
        Edges.due("no reading", x.meterIs(5, 0, 4), -1);
        Edges.due("no bill", x.bills(5), 0);
        x.pass(1);
        Edges.due("behind it", x.billNow(5), 300 + 7 * 20);
    }

    /** The REFUND is 50 for each GOOD and each DAY that was DRY for it since its latest BILL. */
    static void refunds() {
        UtilityWorks x = one();
        x.connect(5, 1, true);
        x.need(5, 1, 3);
        x.turn(0, 11, false);
        x.pass(1);
        Edges.due("a day, two goods", x.billNow(5), 300 + 7 * 20 + 200 + 3 * 10 - 100);
        x.turn(0, 11, true);
        x.pass(29);
        Edges.due("refund", x.billIs(5, 0, 4), 50 + 30 * 50);
        x.turn(0, 11, false);
        x.pass(30);
        Edges.due("since the latest bill", x.billIs(5, 1, 4), 60 * 50);
        x.turn(0, 11, true);
        x.connect(5, 1, false);
        x.pass(30);
        Edges.due("none", x.billIs(5, 2, 4), 0);
    }

    /** Of a SUM above 0 the FUND gives half, rounded down, for one who is POOR, but not more than it has. */
    static void theFundGivesHalf() {
        // what is in the FUND, the SUM, what it gives
        int[][] rows = {{1000, 301, 150}, {1000, 300, 150}, {150, 301, 150}, {149, 301, 149}, {1, 301, 1}, {1000, 1, 0},
            {1000, 2, 1}};
        for (int[] r : rows) {
            UtilityWorks x = one();
            tariff(x, 0, r[1], 0, 999, 0);
            x.fund(r[0]);
            Edges.due("not poor at first", x.poor(5, true), false);
            long money = x.journal(0);
            x.pass(30);
            Edges.due("sum", x.billIs(5, 0, 6), r[1]);
            Edges.due("gift of " + r[0] + " for " + r[1], x.billIs(5, 0, 5), r[2]);
            Edges.due("open", x.billIs(5, 0, 7), r[1] - r[2]);
            Edges.due("fund", x.journal(2), r[0] - r[2]);
            Edges.due("given", x.journal(5), r[2]);
            Edges.due("money", x.journal(0), money - 30 * 200 + r[2]);
            Edges.due("sound", x.isSoundBooks(), true);
        }
    }

    /** The same: nothing if it is empty, or for one who is not POOR; CUSTOMERS by numbers. */
    static void theFundGivesToThePoorByNumbers() {
        UtilityWorks x = one();
        x.connect(1, 0, true);
        x.tariff(0, 1, 0);
        x.tariff(0, 3, 0);
        x.poor(1, true);
        x.poor(5, true);
        x.poor(5, false);
        x.fund(200);
        x.pass(30);
        Edges.due("the poor one", x.billIs(1, 0, 5), 150);
        Edges.due("not poor any more", x.billIs(5, 0, 5), 0);
        Edges.due("poor", x.poor(5, true), false);
        x.pass(30);
        Edges.due("the lower number first", x.billIs(1, 1, 5), 50);
        Edges.due("nothing is left", x.billIs(5, 1, 5), 0);
        Edges.due("fund", x.journal(2), 0);
    }

    /** Who pays pays what is OPEN, of the lowest BILL first; what is left is CREDIT. */
    static void payTheLowestBillFirst() {
        UtilityWorks x = billed();
        x.pass(30);
        long first = x.billIs(5, 0, 7);
        long second = x.billIs(5, 1, 7);
        Edges.due("owes both", x.owes(5), first + second);
        Edges.due("one cent", x.pay(5, 1), first + second - 1);
        Edges.due("of the first", x.billIs(5, 0, 7), first - 1);
        Edges.due("the rest of the first", x.pay(5, (int) first - 1), second);
        Edges.due("the first", x.billIs(5, 0, 7), 0);
        Edges.due("the second", x.billIs(5, 1, 7), second);
        Edges.due("one cent more than all", x.pay(5, (int) second + 1), -1);
        Edges.due("the second", x.billIs(5, 1, 7), 0);
        Edges.due("its sum stays", x.billIs(5, 1, 6), second);
        Edges.due("owes", x.owes(5), -1);
        Edges.due("paid", x.journal(4), first + second + 1);
        Edges.due("money", x.journal(0), 100000 + first + second + 1 - x.journal(6));
        Edges.due("sound", x.isSoundBooks(), true);
    }

    /** CREDIT pays at once what is OPEN. */
    static void creditPaysABillAtOnce() {
        UtilityWorks x = one();
        x.pay(5, (int) FIRST - 1);
        x.pass(30);
        Edges.due("one cent is open", x.billIs(5, 0, 7), 1);
        Edges.due("owes", x.owes(5), 1);
        UtilityWorks y = one();
        y.pay(5, (int) FIRST);
        y.pass(30);
        Edges.due("nothing is open", y.billIs(5, 0, 7), 0);
        Edges.due("owes", y.owes(5), 0);
        Edges.due("notice", y.notice(5, 0), 0);
    }

    /** The INTEREST makes what is OPEN of each BILL more by a hundredth of it, rounded down. */
    static void interestOfAHundredth() {
        int[][] rows = {{99, 99}, {100, 101}, {199, 200}, {200, 202}, {1, 1}};
        for (int[] r : rows) {
            UtilityWorks x = billed();
            leave(x, 5, r[0]);
            x.pass(29);
            Edges.due("not ahead of the bill day", x.billIs(5, 0, 7), r[0]);
            x.pass(1);
            Edges.due("interest of " + r[0], x.billIs(5, 0, 7), r[1]);
            Edges.due("its sum stays", x.billIs(5, 0, 6), FIRST);
            Edges.due("none of the new one", x.billIs(5, 1, 7), x.billIs(5, 1, 6));
            Edges.due("earned", x.journal(3), FIRST + r[1] - r[0] + x.billIs(5, 1, 6));
        }
    }

    /** A PLAN: what is OWED by how many INSTALMENTS, rounded down; the first one has what is left besides. */
    static void instalments() {
        for (int parts = 2; parts <= 6; parts++) {
            UtilityWorks x = billed();
            long each = FIRST / parts;
            Edges.due("first of " + parts, x.split(5, parts), FIRST - (parts - 1) * each);
            Edges.due("parts", x.planIs(5, 0), parts);
            for (int k = 1; k < parts; k++) {
                Edges.due("due", x.planIs(5, 1), 30 + 10 * k);
                Edges.passTo(x, 30 + 10 * k);
                Edges.due("due today", x.planIs(5, 1), 30 + 10 * k);
                x.pay(5, (int) (k == 1 ? FIRST - (parts - 1) * each : each));
                x.pass(1);
                Edges.due("it goes on", x.planIs(5, 0), parts);
                Edges.due("the next one", x.planIs(5, 1), 40 + 10 * k);
            }
            Edges.due("paid in", x.planIs(5, 2), FIRST - each);
            x.pay(5, (int) each - 1);
            Edges.due("a cent is missing", x.planIs(5, 0), parts);
            x.pay(5, 1);
            Edges.due("ended", x.planIs(5, 0), 0);
            Edges.due("no due day", x.planIs(5, 1), -1);
            Edges.due("paid in", x.planIs(5, 2), 0);
            Edges.due("failed", x.planIs(5, 3), 0);
        }
    }

    /** As an INSTALMENT is due, and PAID IN is less than this one and all ahead of it, together, the PLAN FAILS. */
    static void aPlanFailsByACent() {
        for (int k = 1; k <= 3; k++) {
            UtilityWorks x = billed();
            long each = FIRST / 3;
            long[] due = {0, FIRST - 2 * each, FIRST - each, FIRST};
            x.split(5, 3);
            x.pay(5, (int) due[k] - 1);
            Edges.passTo(x, 30 + 10 * k);
            Edges.due("goes on up to the instalment " + k, x.planIs(5, 3) * 10 + x.planIs(5, 0), 3);
            x.pass(1);
            Edges.due("failed by the instalment " + k, x.planIs(5, 3) * 10 + x.planIs(5, 0), 10);
            UtilityWorks y = billed();
            y.split(5, 3);
            y.pay(5, (int) due[k]);
            Edges.passTo(y, 31 + 10 * k);
            Edges.due("goes on, or is ended", y.planIs(5, 3) * 10 + y.planIs(5, 0), k == 3 ? 0 : 3);
        }
    }

    /** The same: how many of its PLANS FAILED; it can have another one. */
    static void plansThatFailed() {
        UtilityWorks x = billed();
        x.split(5, 2);
        Edges.passTo(x, 41);
        Edges.due("one", x.planIs(5, 3), 1);
        Edges.due("another one", x.split(5, 2), (FIRST + 1) / 2);
        Edges.due("due", x.planIs(5, 1), 51);
        Edges.due("it has one", x.planIs(5, 0), 2);
        Edges.passTo(x, 51);
        Edges.due("not yet", x.planIs(5, 3), 1);
        x.pass(1);
        Edges.due("two", x.planIs(5, 3), 2);
        Edges.due("of another", x.planIs(4, 3), 0);
    }

    /** PAID IN is what was paid since: not what was paid ahead; the CREDIT makes what is OWED less. */
    static void paidInSinceThePlan() {
        UtilityWorks x = billed();
        x.pay(5, 90);
        x.split(5, 2);
        Edges.due("paid in", x.planIs(5, 2), 0);
        x.pay(5, 7);
        Edges.due("paid in", x.planIs(5, 2), 7);
        Edges.due("more than all", x.pay(5, 6000), FIRST - 6097);
        Edges.due("ended", x.planIs(5, 0), 0);
        Edges.due("failed", x.planIs(5, 3), 0);
        Edges.refused("nothing is owed", Edges.NO_STATE, () -> x.split(5, 2));
    }

    /** The NOTICE: more than 40, 30, 20 DAYS. */
    static void noticesByDays() {
        UtilityWorks x = billed();
        int[][] rows = {{30, 0}, {49, 0}, {50, 1}, {59, 1}, {60, 2}, {69, 2}, {70, 3}, {99, 3}};
        for (int[] r : rows) {
            Edges.passTo(x, r[0]);
            Edges.due("notice on " + r[0], x.notice(5, 0), r[1]);
        }
        Edges.due("of one who owes nothing", x.notice(0, 0), 0);
    }

    /** The NOTICE: 0, if nothing is OPEN, or it has a PLAN; by the lowest BILL that is OPEN. */
    static void noticesByWhatIsOpen() {
        UtilityWorks x = billed();
        Edges.passTo(x, 85);
        Edges.due("the first one", x.notice(5, 0), 3);
        x.keep(0);
        x.split(5, 3);
        Edges.due("a plan", x.notice(5, 0), 0);
        x.bring(0);
        x.pay(5, (int) x.billIs(5, 0, 7) - 1);
        Edges.due("a cent of the first one", x.notice(5, 0), 3);
        x.pay(5, 1);
        Edges.due("the second one", x.notice(5, 0), 1);
        leave(x, 5, 0);
        Edges.due("nothing", x.notice(5, 0), 0);
    }

    /** With a NOTICE of 3 a JOB to CUT it is told, with an URGENCY of 3. */
    static void cutWithANoticeOf3() {
        UtilityWorks x = billed();
        x.alarm(true);
        Edges.passTo(x, 70);
        Edges.refused("none yet", Edges.NO_THING, () -> x.jobIs(0, 0));
        x.pass(1);
        int[] job = {5, 0, 5, 3, 0, -1};
        for (int what = 0; what < 6; what++) {
            Edges.due("the job " + what, x.jobIs(0, what), job[what]);
        }
        x.pass(9);
        Edges.refused("it is not over yet", Edges.NO_THING, () -> x.jobIs(1, 0));
        x.dropJob(0);
        x.pass(1);
        Edges.due("told again", x.jobIs(1, 0), 5);
        x.alarm(false);
        x.pass(1);
        Edges.due("done", x.jobIs(1, 4), 2);
        Edges.due("cut", x.notice(5, 1), 1);
        x.pass(3);
        Edges.refused("connected to nothing", Edges.NO_THING, () -> x.jobIs(2, 0));
    }

    /** The same: not with a RANK of 0, nor if it is CONNECTED to nothing, nor if 16 JOBS are not over. */
    static void notCut() {
        UtilityWorks x = Edges.quiet();
        x.connect(0, 0, true);
        x.need(0, 0, 2);
        Edges.passTo(x, 79);
        Edges.due("notice", x.notice(0, 0), 3);
        Edges.refused("the rank 0", Edges.NO_THING, () -> x.jobIs(0, 0));
        UtilityWorks v = Edges.quiet();
        Edges.customer(v, 0, 1, 0, 2);
        Edges.passTo(v, 71);
        Edges.due("the rank 1", v.jobIs(0, 2), 6);
        UtilityWorks y = billed();
        y.connect(5, 0, false);
        Edges.passTo(y, 79);
        Edges.due("notice", y.notice(5, 0), 3);
        Edges.refused("connected to nothing", Edges.NO_THING, () -> y.jobIs(0, 0));
        UtilityWorks z = billed();
        z.alarm(true);
        for (int k = 0; k < 16; k++) {
            z.job(4, 0, 0, 0);
        }
        Edges.passTo(z, 75);
        Edges.refused("16 are not over", Edges.NO_THING, () -> z.jobIs(16, 0));
        z.dropJob(7);
        z.pass(1);
        Edges.due("now there is room", z.jobIs(16, 0), 5);
        UtilityWorks w = billed();
        w.job(5, 0, 4, 0);
        w.alarm(true);
        Edges.passTo(w, 71);
        Edges.due("a job to cut another one", w.jobIs(1, 2), 5);
    }

    /** The same: one of that KIND for it that was told by hand is one, too; a PLAN keeps from it. */
    static void cutOnlyOnce() {
        UtilityWorks x = billed();
        x.alarm(true);
        x.job(5, 0, 5, 0);
        Edges.passTo(x, 75);
        Edges.refused("told by hand", Edges.NO_THING, () -> x.jobIs(1, 0));
        UtilityWorks y = billed();
        Edges.passTo(y, 70);
        y.split(5, 2);
        y.pass(5);
        Edges.refused("a plan", Edges.NO_THING, () -> y.jobIs(0, 0));
        Edges.passTo(y, 81);
        Edges.due("the plan failed on the day 80", y.jobIs(0, 0), 5);
        Edges.due("notice", y.notice(5, 0), 3);
    }

    /** A town on the DAY 72, in which the CUSTOMER 5 was CUT. */
    private static UtilityWorks cut() {
        UtilityWorks x = billed();
        Edges.passTo(x, 72);
        Edges.due("cut from", x.notice(5, 1), 1);
        Edges.due("connected to", x.customerIs(5, 2), 0);
        return x;
    }

    /** One that is CUT from some GOOD and OWES nothing more (0, or below) is told for a JOB to CONNECT it. */
    static void connectedWhenNothingIsOwed() {
        UtilityWorks x = cut();
        leave(x, 5, 1);
        x.pass(2);
        Edges.refused("a cent is owed", Edges.NO_THING, () -> x.jobIs(1, 0));
        x.keep(0);
        for (int cents = 1; cents <= 2; cents++) {
            x.bring(0);
            x.alarm(true);
            x.pay(5, cents);
            x.pass(3);
            int[] job = {6, 0, 5, 5, 0, -1};
            for (int what = 0; what < 6; what++) {
                Edges.due("the job " + what, x.jobIs(1, what), job[what]);
            }
            Edges.refused("told once", Edges.NO_THING, () -> x.jobIs(2, 0));
            x.alarm(false);
            x.pass(1);
            Edges.due("connected again", x.customerIs(5, 2), 1);
            Edges.due("cut from none", x.notice(5, 1), 0);
            x.pass(2);
            Edges.refused("not told again", Edges.NO_THING, () -> x.jobIs(2, 0));
        }
    }

    /** CUT again: from those to which it was CONNECTED then, in place of those ahead; by hand not any more. */
    static void cutFromWhatItHadThen() {
        UtilityWorks x = cut();
        x.connect(5, 1, true);
        Edges.due("cut from what is not connected", x.notice(5, 1), 1);
        x.pass(3);
        Edges.due("cut from the other one in its place", x.notice(5, 1), 2);
        x.job(5, 0, 5, 9);
        x.pass(1);
        Edges.due("nothing to do", x.jobIs(2, 4), 2);
        Edges.due("leaves these", x.notice(5, 1), 2);
        x.connect(5, 0, true);
        Edges.due("another good by hand", x.notice(5, 1), 2);
        x.connect(5, 1, true);
        Edges.due("that good by hand", x.notice(5, 1), 0);
        x.connect(5, 1, false);
        Edges.due("not cut by that", x.notice(5, 1), 0);
        leave(x, 5, 0);
        x.pass(2);
        Edges.due("connected", x.customerIs(5, 2), 1);
    }

    /** CONNECT has nothing to do, if it is CUT from nothing. */
    static void connectOneWhoIsNotCut() {
        UtilityWorks x = one();
        x.job(6, 0, 5, 9);
        x.job(6, 0, 4, 8);
        x.pass(3);
        Edges.due("done", x.jobIs(0, 4) * 10 + x.jobIs(1, 4), 22);
        Edges.due("connected as it was", x.customerIs(5, 2) * 10 + x.customerIs(4, 2), 10);
    }

    /** fund: MONEY into the FUND, which is 0 at first. */
    static void theFund() {
        UtilityWorks x = new UtilityWorks();
        Edges.due("fund", x.journal(2), 0);
        Edges.due("one cent", x.fund(1), 1);
        Edges.due("99998 more", x.fund(99998), 99999);
        Edges.due("money", x.journal(0), 1);
        Edges.due("that is not spent", x.journal(6), 0);
        Edges.refused("two cents", Edges.NO_STATE, () -> x.fund(2));
        Edges.due("the last one", x.fund(1), 100000);
        Edges.due("sound", x.isSoundBooks(), true);
    }

    /** The JOURNAL at first, and what goes into SPENT. */
    static void theJournal() {
        UtilityWorks x = new UtilityWorks();
        long[] first = {100000, 0, 0, 0, 0, 0, 0};
        for (int account = 0; account < 7; account++) {
            Edges.due("account " + account, x.journal(account), first[account]);
        }
        x.permit(0, 3, 0, 2);
        Edges.due("a fee", x.journal(6), 1000);
        x.share(0, 1);
        Edges.due("half a fee", x.journal(6), 1500);
        x.hire(3, true);
        Edges.due("hired men", x.journal(6), 6500);
        x.lay(1, 3, 40);
        Edges.due("hired men who lay", x.journal(6), 9500);
        x.order(3, 1);
        Edges.due("an order", x.journal(6), 9505);
        x.drop(0);
        x.pass(1);
        Edges.due("wages and a fine", x.journal(6), 9505 + 200 + 1000);
        Edges.due("money", x.journal(0), 100000 - 10705);
        Edges.due("pay ahead", x.pay(0, 5), -5);
        Edges.due("owed", x.journal(1), -5);
        Edges.due("paid", x.journal(4), 5);
    }

    /** The TARIFFS at first: BASE, PRICE, STEP, DEAR price. */
    static void theTariffsAtFirst() {
        UtilityWorks x = new UtilityWorks();
        int[][] first = {{300, 20, 100, 30}, {200, 10, 60, 15}, {400, 25, 80, 40}};
        for (int good = 0; good < 3; good++) {
            for (int what = 0; what < 4; what++) {
                Edges.due("tariff " + what + " of " + good, x.tariff(good, what, 0), first[good][what]);
            }
        }
    }

    /** tariff: as it is when the BILL is made. */
    static void theTariffOfTheBillDay() {
        UtilityWorks x = one();
        x.pass(29);
        tariff(x, 0, 1, 0, 999, 0);
        Edges.due("what it was", x.tariff(0, 0, 2), 1);
        x.pass(1);
        Edges.due("sum", x.billIs(5, 0, 6), 2);
        x.tariff(0, 0, 77);
        Edges.due("it stays", x.billIs(5, 0, 6), 2);
    }

    /** What is left is CREDIT: it grows by each payment. */
    static void creditGrows() {
        UtilityWorks x = one();
        Edges.due("pay", x.pay(5, 10), -10);
        Edges.due("pay again", x.pay(5, 7), -17);
        Edges.due("owed", x.journal(1), -17);
        Edges.due("paid", x.journal(4), 17);
        Edges.due("another one", x.pay(4, 5), -5);
        Edges.due("owed by all", x.journal(1), -22);
        Edges.due("sound", x.isSoundBooks(), true);
    }

    /** PAID IN: 0 without a PLAN, though one FAILED; from 0 on in the next one. */
    static void paidInWithoutAPlan() {
        UtilityWorks x = billed();
        Edges.due("without one", x.planIs(5, 2), 0);
        x.pay(5, 3);
        Edges.due("none ahead of any", x.planIs(5, 2), 0);
        x.split(5, 2);
        x.pay(5, 9);
        Edges.due("paid in", x.planIs(5, 2), 9);
        Edges.passTo(x, 41);
        Edges.due("failed", x.planIs(5, 3) * 10 + x.planIs(5, 0), 10);
        Edges.due("none of one that failed", x.planIs(5, 2), 0);
        x.pay(5, 5);
        Edges.due("none behind it", x.planIs(5, 2), 0);
        x.split(5, 2);
        Edges.due("none in a new one", x.planIs(5, 2), 0);
        x.pay(5, 4);
        Edges.due("paid in", x.planIs(5, 2), 4);
    }

    /** PAID IN is what was paid: CREDIT that a BILL brings pays what is OPEN, but is not PAID IN. */
    static void creditIsNotPaidIn() {
        UtilityWorks x = one();
        x.unseal(5, 0);
        x.slow(5, 0, 90);
        x.pass(30);
        x.read(5, 0);
        Edges.due("first instalment", x.split(5, 6), FIRST - 5 * (FIRST / 6));
        x.pay(5, 1800);
        Edges.passTo(x, 60);
        long open = FIRST - 1800;
        Edges.due("sum", x.billIs(5, 1, 6), -3340);
        Edges.due("open", x.billIs(5, 0, 7), open + open / 100 - 3340);
        Edges.due("paid in", x.planIs(5, 2), 1800);
        Edges.due("it goes on", x.planIs(5, 0), 6);
        x.pass(1);
        Edges.due("and fails", x.planIs(5, 3), 1);
    }

    /** METERED is COUNTED less what that was: what was estimated by hand ahead of the BILL, too. */
    static void estimatedByHandAheadOfTheBill() {
        UtilityWorks x = one();
        x.pass(10);
        Edges.due("estimate", x.estimate(5, 0), 70);
        Edges.due("now", x.billNow(5), 300 + 70 * 20);
        x.pass(5);
        Edges.due("with five more", x.billNow(5), 300 + 100 * 20 + 5 * 30);
        x.pass(15);
        Edges.due("item", x.billIs(5, 0, 1), FIRST);
        x.pass(1);
        x.estimate(5, 0);
        x.pass(29);
        Edges.due("the next one", x.billIs(5, 1, 1), 300 + 100 * 20 + (30 * 7 - 100) * 30);
    }

    /** GIVEN is what the FUND gave in all. */
    static void givenInAll() {
        UtilityWorks x = one();
        x.connect(1, 0, true);
        tariff(x, 0, 300, 0, 0, 0);
        x.poor(1, true);
        x.poor(5, true);
        x.fund(1000);
        x.pass(30);
        Edges.due("to both", x.journal(5), 300);
        x.alarm(true);
        x.pass(30);
        Edges.due("to both twice", x.journal(5), 600);
        Edges.due("fund", x.journal(2), 400);
        Edges.due("sound", x.isSoundBooks(), true);
    }

    /** The INTEREST is of what is OPEN of each BILL for itself. */
    static void interestOfEachBill() {
        UtilityWorks x = one();
        tariff(x, 0, 150, 0, 0, 0);
        x.alarm(true);
        Edges.passTo(x, 90);
        Edges.due("the first", x.billIs(5, 0, 7), 152);
        Edges.due("the second", x.billIs(5, 1, 7), 151);
        Edges.due("the third", x.billIs(5, 2, 7), 150);
        Edges.due("earned", x.journal(3), 453);
        leave(x, 5, 301);
        x.pass(30);
        Edges.due("what is paid bears none", x.billIs(5, 0, 7), 0);
        Edges.due("the second", x.billIs(5, 1, 7), 152);
        Edges.due("the third", x.billIs(5, 2, 7), 151);
    }

    /** The INTEREST comes in a PLAN, too; the INSTALMENTS stay. */
    static void interestInAPlan() {
        UtilityWorks x = billed();
        leave(x, 5, 1000);
        Edges.due("first instalment", x.split(5, 6), 170);
        x.pay(5, 500);
        Edges.passTo(x, 60);
        Edges.due("five more", x.billIs(5, 0, 7), 505);
        Edges.due("it goes on", x.planIs(5, 0), 6);
        x.pay(5, 499);
        Edges.due("a cent is missing", x.planIs(5, 0), 6);
        x.pay(5, 1);
        Edges.due("all instalments are paid in", x.planIs(5, 0), 0);
        Edges.due("though some is open", x.billIs(5, 0, 7), 5);
    }

    /** JOBS of another KIND for it, or in a STREET of its number, do not keep from the one to CUT it. */
    static void cutInSpiteOfOtherJobs() {
        UtilityWorks x = billed();
        x.alarm(true);
        x.job(4, 0, 5, 0);
        x.job(0, 0, 5, 0);
        x.job(6, 0, 5, 0);
        Edges.passTo(x, 71);
        Edges.due("told", x.jobIs(3, 0) * 10 + x.jobIs(3, 2), 55);
        leave(x, 5, 0);
        x.dropJob(3);
        x.pass(1);
        Edges.refused("no other one", Edges.NO_THING, () -> x.jobIs(4, 0));
    }

    /** Who is made not CONNECTED by hand stays CUT, and is CONNECTED again. */
    static void notConnectedByHandStaysCut() {
        UtilityWorks x = cut();
        Edges.due("it is not connected", x.connect(5, 0, false), false);
        Edges.due("cut", x.notice(5, 1), 1);
        leave(x, 5, 0);
        x.pass(2);
        Edges.due("connected", x.customerIs(5, 2), 1);
        Edges.due("cut from none", x.notice(5, 1), 0);
    }

    public static void main(String[] args) {
        Edges.runAll(BooksEdgesTest.class);
    }
}
