import java.util.ArrayList;
import java.util.List;
import java.util.function.Function;
import java.util.function.Supplier;

/**
 * All that a town tells of itself. An object is asked no more than 512 calls, so each few hundred answers are those of
 * a town that is made anew.
 */
final class View {
    private static final int AT_ONCE = 240;

    private static final List<Function<UtilityWorks, Object>> ASKED = new ArrayList<>();

    static {
        askOfTown();
        askOfStreets();
        askOfPower();
        askOfWater();
        askOfHeat();
        askOfCustomers();
        askOfCrews();
        askOfWeather();
        askOfWhatIsNext();
    }

    private View() {
    }

    private interface Asking {
        Object answer(UtilityWorks x, int k, int what);
    }

    private static void ask(Function<UtilityWorks, Object> call) {
        ASKED.add(call);
    }

    private static void ask(int things, int whats, Asking call) {
        for (int k = 0; k < things; k++) {
            for (int w = 0; w < whats; w++) {
                int thing = k;
                int what = w;
                ASKED.add(x -> call.answer(x, thing, what));
            }
        }
    }

    private static void askOfTown() {
        ask(1, 10, (x, k, what) -> x.count(what));
        ask(51, 5, (x, k, what) -> x.linkIs(k / 17, k % 17, what));
        ask(12, 12, (x, k, what) -> x.joined(0, k, what));
        ask(12, 3, (x, k, what) -> x.joined(what, 1, k));
        ask(1, 7, (x, k, what) -> x.journal(what));
    }

    private static void askOfStreets() {
        ask(17, 9, (x, k, what) -> x.streetIs(k, what));
        ask(16, 7, (x, k, what) -> x.permitIs(k, what));
        ask(12, 12, (x, k, what) -> x.way(k, what));
        ask(12, 6, (x, k, what) -> x.wayIs(k, 11 - k, what));
        ask(17, 3, (x, k, what) -> x.firstFree(k, 1 + 4 * what));
        ask(17, 3, (x, k, what) -> x.may(k, x.count(0) + 7 * what, 3));
    }

    private static void askOfPower() {
        ask(4, 4, (x, k, what) -> x.plantIs(k, what));
        ask(12, 5, (x, k, what) -> x.powerAt(k, what));
        ask(17, 4, (x, k, what) -> x.lineIs(k, what));
        ask(17, 1, (x, k, what) -> x.flowAnew(k));
        ask(1, 3, (x, k, what) -> x.shed(what));
        ask(1, 2, (x, k, what) -> x.switching(what));
        ask(1, 6, (x, k, what) -> x.powerSum(what));
    }

    private static void askOfWater() {
        ask(3, 7, (x, k, what) -> x.wellIs(k, what));
        ask(4, 6, (x, k, what) -> x.tankIs(k, what));
        ask(17, 6, (x, k, what) -> x.pipeIs(k, what));
        ask(12, 6, (x, k, what) -> x.waterAt(k, what));
        ask(12, 1, (x, k, what) -> x.waterAnew(k));
        ask(17, 1, (x, k, what) -> x.waterWithout(k));
        ask(1, 7, (x, k, what) -> x.waterSum(what));
    }

    private static void askOfHeat() {
        ask(2, 9, (x, k, what) -> x.boilerIs(k, what));
        ask(2, 1, (x, k, what) -> x.lasts(k));
        ask(17, 4, (x, k, what) -> x.mainIs(k, what));
        ask(12, 3, (x, k, what) -> x.heatAt(k, what));
        ask(UtilityWorks::lostAnew);
        ask(17, 1, (x, k, what) -> x.heatWithout(k));
        ask(1, 5, (x, k, what) -> x.heatSum(what));
    }

    private static void askOfCustomers() {
        ask(10, 12, (x, k, what) -> x.customerIs(k, what));
        ask(30, 9, (x, k, what) -> x.meterIs(k / 3, k % 3, what));
        ask(10, 1, (x, k, what) -> x.warmth(k));
        ask(10, 1, (x, k, what) -> x.dark(k));
        ask(10, 1, (x, k, what) -> x.owes(k));
        ask(10, 1, (x, k, what) -> x.bills(k));
        ask(10, 8, (x, k, what) -> x.billIs(k, 0, what));
        ask(10, 8, (x, k, what) -> x.billIs(k, 1, what));
        ask(10, 4, (x, k, what) -> x.planIs(k, what));
        ask(10, 2, (x, k, what) -> x.notice(k, what));
        ask(10, 1, (x, k, what) -> x.billNow(k));
        ask(3, 1, (x, k, what) -> x.loss(k));
        ask(3, 1, (x, k, what) -> x.suspect(k));
        ask(10, 1, (x, k, what) -> x.poor(k, false));
        ask(3, 4, (x, k, what) -> x.tariff(k, what, 7));
    }

    private static void askOfCrews() {
        ask(4, 7, (x, k, what) -> x.crewIs(k, what));
        ask(4, 1, (x, k, what) -> x.nextJob(k));
        ask(17, 6, (x, k, what) -> x.jobIs(k, what));
        ask(4, 7, (x, k, what) -> x.storeIs(k, what));
        ask(1, 2, (x, k, what) -> x.spent(what));
    }

    private static void askOfWeather() {
        ask(1, 7, (x, k, what) -> x.weatherIs(what));
        ask(4, 4, (x, k, what) -> x.stormIs(k, what));
        ask(12, 1, (x, k, what) -> x.force(k));
        ask(UtilityWorks::content);
        ask(51, 1, (x, k, what) -> x.gain(k / 17, k % 17));
        ask(1, 4, (x, k, what) -> x.mending(what));
        ask(UtilityWorks::isSound);
    }

    /** Calls that change something, too: what they answer tells what is not told otherwise. */
    private static void askOfWhatIsNext() {
        ask(12, 1, (x, k, what) -> x.height(k, 1));
        ask(1, 6, (x, k, what) -> x.report(what));
        ask(x -> x.permit(0, 7, 9000, 2));
        ask(x -> x.job(1, 0, 2, 2));
        ask(x -> x.storm(0, 2));
        ask(x -> x.order(3, 2));
        ask(x -> x.crew(3, 3, 3));
        ask(x -> x.customer(3, 3));
        ask(x -> x.plant(3, 3));
        ask(x -> x.well(3, 3, 3));
        ask(x -> x.tank(2, 3, 3));
        ask(x -> x.boiler(3, 30));
        ask(30, 1, (x, k, what) -> x.estimate(k / 3, k % 3));
        ask(30, 1, (x, k, what) -> x.read(k / 3, k % 3));
        ask(10, 1, (x, k, what) -> x.split(k, 2));
        ask(x -> x.coal(0, 3));
        ask(x -> x.fund(9));
        ask(x -> x.fire(3, 9));
        ask(x -> x.bring(0));
        ask(x -> x.bring(1));
        ask(1, 10, (x, k, what) -> x.count(what));
        ask(1, 7, (x, k, what) -> x.journal(what));
    }

    static List<String> of(Supplier<UtilityWorks> made) {
        List<String> answers = new ArrayList<>();
        for (int first = 0; first < ASKED.size(); first += AT_ONCE) {
            UtilityWorks x = made.get();
            for (int k = first; k < ASKED.size() && k < first + AT_ONCE; k++) {
                Function<UtilityWorks, Object> call = ASKED.get(k);
                answers.add(Edges.told(() -> call.apply(x)));
            }
        }
        return answers;
    }

    /** Two towns tell the same. */
    static void same(String what, List<String> got, List<String> due) {
        for (int k = 0; k < due.size(); k++) {
            if (!got.get(k).equals(due.get(k))) {
                Edges.wrong(what + ": answer " + k + " of the view is " + got.get(k) + ", due is " + due.get(k));
                return;
            }
        }
    }
}
