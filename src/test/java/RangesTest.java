import java.lang.reflect.InvocationTargetException;
import java.lang.reflect.Method;
import java.util.ArrayList;
import java.util.Arrays;
import java.util.HashMap;
import java.util.List;
import java.util.Map;
import java.util.function.Supplier;

/**
 * The range of each argument of each call: one too small and one too large are refused, by the exception that is due,
 * the least and the greatest are not; of several exceptions it is the one that the call names first; and a town that
 * refused all of that goes on as one that was never asked.
 */
public final class RangesTest {
    /**
     * Each call with its arguments: a thing by its kind, a flag, or a number with its range. What stands behind "=" is
     * what it is given while another argument is tried.
     */
    private static final String[] FACE = {
        "linkIs good street what:0..4", "turn good street flag", "bound good street bound:1..999=40",
        "lay good street=3 bound:1..999=40", "breaks good street", "joined good crossing crossing", "pass days:1..60=1",
        "keep image", "bring image", "count what:0..9", "height crossing height:0..99=20", "surface street surface:0..2=1",
        "market street days:0..127", "may street from:0..9999 days:1..9", "firstFree street days:1..9",
        "permit good street=5 from:0..9999 days:1..9", "share permit good", "drop permit", "permitIs permit what:0..6",
        "hire street flag", "streetIs street what:0..8", "way crossing crossing", "wayIs crossing crossing k:0..11",
        "plant crossing=5 capacity:1..300", "start plant flag", "plantIs plant what:0..3", "powerAt crossing what:0..4",
        "lineIs street what:0..3", "flowAnew street", "shed what:0..2", "dark customer", "switching what:0..1",
        "powerSum what:0..5", "well crossing=7 yield:1..99 lift:0..99", "tank crossing=7 size:1..999=500 reserve:0..500",
        "pump well flag", "reserve tank reserve:0..200", "leak street leak:0..9", "wellIs well what:0..6",
        "tankIs tank what:0..5", "pipeIs street what:0..5", "waterAt crossing what:0..5", "waterAnew crossing",
        "waterWithout street", "fire crossing amount:1..500", "waterSum what:0..6", "boiler crossing=7 capacity:10..300",
        "coal boiler fuel:1..999", "light boiler flag", "boilerIs boiler what:0..8", "mainIs street what:0..3",
        "heatAt crossing what:0..2", "warmth customer", "lasts boiler", "heatWithout street", "heatSum what:0..4",
        "customer crossing rank:0..9", "need customer good need:0..20", "connect customer good flag",
        "customerIs customer what:0..11", "meterIs customer good what:0..8", "unseal customer good",
        "slow customer good slow:0..90", "seal customer good", "read customer good", "estimate customer good", "loss good",
        "suspect good", "tariff good what:0..3=1 v:0..999", "pay customer cents:1..99999", "owes customer",
        "split customer parts:2..6", "planIs customer what:0..3", "poor customer flag", "fund cents:1..99999",
        "bills customer", "billNow customer", "notice customer what:0..1", "journal account:0..6",
        "crew crossing skills:1..31 pace:1..4", "crewIs crew what:0..6", "overtime crew flag", "leave crew",
        "job kind:0..6=0 good street urgency:0..9", "jobIs job what:0..5", "dropJob job", "nextJob crew",
        "order part many:1..99", "least part least:0..99", "storeIs part what:0..6", "spent what:0..1",
        "weather temperature:-30..40=10 wind:0..9=2 rain:0..9", "draws seed:0..65536", "storm row:0..2 strength:1..9",
        "weatherIs what:0..6", "stormIs storm what:0..3", "force crossing", "gain good street", "mending what:0..3",
        "report what:0..5"
    };

    private static final class Argument {
        String kind;
        boolean isFlag;
        boolean isRange;
        int low;
        int high;
        int usual;
    }

    private static final class Asked {
        final Method call;
        final Object[] args;
        final Class<? extends RuntimeException> due;

        Asked(Method call, Object[] args, Class<? extends RuntimeException> due) {
            this.call = call;
            this.args = args.clone();
            this.due = due;
        }

        String answerOf(UtilityWorks x) {
            try {
                return call.invoke(x, args).toString();
            } catch (InvocationTargetException e) {
                return "throws." + e.getCause().getClass().getSimpleName();
            } catch (IllegalAccessException e) {
                return "can't be called";
            }
        }

        String text() {
            return call.getName() + Arrays.toString(args);
        }
    }

    private static final Map<String, Method> CALLS = new HashMap<>();

    static {
        for (Method m : UtilityWorks.class.getMethods()) {
            CALLS.put(m.getName(), m);
        }
    }

    /** How many there are of each kind of thing. */
    private static Map<String, Integer> things(int plants, int wells, int tanks, int boilers, int customers, int crews,
            int permits, int jobs, int storms) {
        Map<String, Integer> many = new HashMap<>();
        many.putAll(Map.of("good", 3, "street", 17, "crossing", 12, "image", 2, "part", 4));
        many.putAll(Map.of("plant", plants, "well", wells, "tank", tanks, "boiler", boilers, "customer", customers,
                "crew", crews, "permit", permits, "job", jobs, "storm", storms));
        return many;
    }

    private static Argument argument(String told, Map<String, Integer> many) {
        Argument argument = new Argument();
        String[] halves = told.split("=");
        argument.kind = halves[0].split(":")[0];
        argument.isFlag = told.equals("flag");
        argument.isRange = told.contains(":");
        if (argument.isRange) {
            String[] range = halves[0].split(":")[1].split("\\.\\.");
            argument.low = Integer.parseInt(range[0]);
            argument.high = Integer.parseInt(range[1]);
        } else if (!argument.isFlag) {
            argument.high = many.get(halves[0]) - 1;
        }
        argument.usual = halves.length > 1 ? Integer.parseInt(halves[1]) : argument.low;
        return argument;
    }

    private static Object[] usual(Argument[] arguments) {
        Object[] args = new Object[arguments.length];
        for (int k = 0; k < args.length; k++) {
            args[k] = arguments[k].isFlag ? (Object) true : (Object) arguments[k].usual;
        }
        return args;
    }

    private static int[] outside(Argument a) {
        return new int[] {a.low - 1, a.high + 1, Integer.MIN_VALUE, Integer.MAX_VALUE};
    }

    /** A thing that is not there is told of ahead of what is out of range; of job() it is the other way. */
    private static Class<? extends RuntimeException> dueFor(String name, boolean noThing, boolean noRange) {
        boolean rangeFirst = name.equals("job");
        return noThing && !(rangeFirst && noRange) ? Edges.NO_THING : Edges.NO_RANGE;
    }

    private static boolean lacks(Argument[] arguments) {
        for (Argument a : arguments) {
            if (!a.isRange && !a.isFlag && a.high < 0) {
                return true;
            }
        }
        return false;
    }

    /** All calls with one argument that is outside its range, or two. */
    private static List<Asked> outsideAll(Map<String, Integer> many) {
        List<Asked> all = new ArrayList<>();
        for (String told : FACE) {
            String[] words = told.split(" ");
            Method call = CALLS.get(words[0]);
            Argument[] arguments = new Argument[words.length - 1];
            for (int k = 0; k < arguments.length; k++) {
                arguments[k] = argument(words[k + 1], many);
            }
            boolean lacks = lacks(arguments);
            Object[] args = usual(arguments);
            for (int k = 0; k < args.length; k++) {
                Argument a = arguments[k];
                Object was = args[k];
                for (int v : a.isFlag ? new int[0] : outside(a)) {
                    args[k] = v;
                    all.add(new Asked(call, args, dueFor(words[0], lacks || !a.isRange, a.isRange)));
                    twoOutside(all, call, arguments, args, k);
                }
                args[k] = was;
            }
        }
        return all;
    }

    private static void twoOutside(List<Asked> all, Method call, Argument[] arguments, Object[] args, int first) {
        for (int k = 0; k < args.length; k++) {
            Argument a = arguments[k];
            if (k == first || a.isFlag || a.isRange == arguments[first].isRange) {
                continue;
            }
            Object was = args[k];
            args[k] = a.high + 1;
            all.add(new Asked(call, args, dueFor(call.getName(), true, true)));
            args[k] = was;
        }
    }

    /** All calls with one argument that is the least, or the greatest, of its range. */
    private static List<Asked> insideAll(Map<String, Integer> many) {
        List<Asked> all = new ArrayList<>();
        for (String told : FACE) {
            String[] words = told.split(" ");
            Method call = CALLS.get(words[0]);
            Argument[] arguments = new Argument[words.length - 1];
            for (int k = 0; k < arguments.length; k++) {
                arguments[k] = argument(words[k + 1], many);
            }
            Object[] args = usual(arguments);
            for (int k = 0; k < args.length && !lacks(arguments); k++) {
                Object was = args[k];
                for (int v : arguments[k].isFlag ? new int[0] : new int[] {arguments[k].low, arguments[k].high}) {
                    args[k] = v;
                    all.add(new Asked(call, args, arguments[k].isRange ? Edges.NO_RANGE : Edges.NO_THING));
                }
                args[k] = was;
            }
        }
        return all;
    }

    private static UtilityWorks some() {
        UtilityWorks x = new UtilityWorks();
        x.permit(1, 3, 0, 9);
        x.job(4, 0, 0, 0);
        x.storm(1, 3);
        x.keep(0);
        x.keep(1);
        x.unseal(0, 0);
        return x;
    }

    private static UtilityWorks full() {
        UtilityWorks x = new UtilityWorks();
        x.plant(1, 20);
        x.plant(2, 20);
        x.well(1, 20, 20);
        x.tank(1, 500, 0);
        x.tank(2, 300, 0);
        x.tank(4, 200, 0);
        x.boiler(6, 50);
        for (int k = 6; k < 10; k++) {
            x.customer(k, k - 6);
        }
        x.crew(3, 7, 2);
        x.crew(4, 31, 4);
        for (int k = 0; k < 16; k++) {
            x.permit(k % 3, k, 0, 9);
            x.job(1, 0, k, 0);
        }
        for (int k = 0; k < 4; k++) {
            x.storm(k % 3, 1);
        }
        x.keep(0);
        x.keep(1);
        x.pass(1);
        return x;
    }

    private static void refusesAll(String what, Supplier<UtilityWorks> made, Map<String, Integer> many) {
        List<Asked> all = outsideAll(many);
        List<String> now = View.of(made);
        List<String> then = View.of(() -> goneOn(made.get()));
        UtilityWorks x = made.get();
        int left = 400;
        for (Asked asked : all) {
            String got = asked.answerOf(x);
            if (!got.equals("throws." + asked.due.getSimpleName())) {
                Edges.wrong(what + ": " + asked.text() + " answered " + got + ", due is " + asked.due.getSimpleName());
            }
            left--;
            if (left == 0) {
                x = made.get();
                left = 400;
            }
        }
        for (int first = 0; first < all.size(); first += 150) {
            List<Asked> some = all.subList(first, Math.min(all.size(), first + 150));
            Supplier<UtilityWorks> refusing = () -> asked(made.get(), some);
            View.same(what + ", refused " + first + " and on", View.of(refusing), now);
            View.same(what + ", refused " + first + " and on, then", View.of(() -> goneOn(refusing.get())), then);
        }
    }

    private static UtilityWorks asked(UtilityWorks x, List<Asked> all) {
        for (Asked asked : all) {
            asked.answerOf(x);
        }
        return x;
    }

    private static UtilityWorks goneOn(UtilityWorks x) {
        x.pass(11);
        return x;
    }

    private static void takesAll(String what, Supplier<UtilityWorks> made, Map<String, Integer> many) {
        for (Asked asked : insideAll(many)) {
            String got = asked.answerOf(made.get());
            if (got.equals("throws.IndexOutOfBoundsException") && !isOfLinks(asked)
                    || got.equals("throws.IllegalArgumentException")) {
                Edges.wrong(what + ": " + asked.text() + " answered " + got + ", though all is in range");
            }
        }
    }

    /** Calls that want a LINK in the STREET, which is told by the same exception. */
    private static boolean isOfLinks(Asked asked) {
        return List.of("lineIs", "flowAnew", "leak", "pipeIs", "waterWithout", "mainIs", "heatWithout")
                .contains(asked.call.getName()) && asked.args[0].equals(16);
    }

    static void aNewTown() {
        Map<String, Integer> many = things(2, 2, 1, 1, 6, 2, 0, 0, 0);
        refusesAll("a new town", UtilityWorks::new, many);
        takesAll("a new town", UtilityWorks::new, many);
    }

    static void aTownWithOneOfEach() {
        Map<String, Integer> many = things(2, 2, 1, 1, 6, 2, 1, 1, 1);
        refusesAll("a town with one of each", RangesTest::some, many);
        takesAll("a town with one of each", RangesTest::some, many);
    }

    static void aTownWithAllThatMayBe() {
        Map<String, Integer> many = things(4, 3, 4, 2, 10, 4, 16, 16, 4);
        refusesAll("a full town", RangesTest::full, many);
        takesAll("a full town", RangesTest::full, many);
    }

    static void eachCallIsInTheTable() {
        List<String> named = new ArrayList<>();
        for (String told : FACE) {
            named.add(told.split(" ")[0]);
        }
        for (Method m : UtilityWorks.class.getMethods()) {
            boolean hasRange = false;
            for (Class<?> type : m.getParameterTypes()) {
                hasRange = hasRange || type == int.class;
            }
            if (m.getDeclaringClass() == UtilityWorks.class && hasRange && !m.getName().equals("billIs")
                    && !named.contains(m.getName())) {
                Edges.wrong(m.getName() + " is not in the table");
            }
        }
    }

    /** v: 0 to 9999 for a BASE, 0 to 999 otherwise. */
    static void aBaseIsUpTo9999() {
        for (int good = 0; good < 3; good++) {
            UtilityWorks x = new UtilityWorks();
            int g = good;
            Edges.refused("base", Edges.NO_RANGE, () -> x.tariff(g, 0, -1));
            Edges.refused("base", Edges.NO_RANGE, () -> x.tariff(g, 0, 10000));
            Edges.due("base", x.tariff(g, 0, 9999), new int[] {300, 200, 400}[g]);
            Edges.due("base", x.tariff(g, 0, 0), 9999);
            for (int what = 1; what < 4; what++) {
                int w = what;
                Edges.refused("tariff " + w, Edges.NO_RANGE, () -> x.tariff(g, w, -1));
                Edges.refused("tariff " + w, Edges.NO_RANGE, () -> x.tariff(g, w, 1000));
                x.tariff(g, w, 999);
                Edges.due("tariff " + w, x.tariff(g, w, 0), 999);
                Edges.due("tariff " + w, x.tariff(g, w, 5), 0);
            }
        }
    }

    /** RESERVE: 0 to the SIZE of the TANK, as it is told and later. */
    static void aReserveIsUpToTheSize() {
        UtilityWorks x = new UtilityWorks();
        Edges.refused("tank", Edges.NO_RANGE, () -> x.tank(0, 1, 2));
        Edges.refused("tank", Edges.NO_RANGE, () -> x.tank(0, 1, -1));
        Edges.refused("tank", Edges.NO_RANGE, () -> x.tank(0, 999, 1000));
        Edges.due("tank", x.tank(0, 1, 1), 1);
        Edges.due("tank", x.tank(1, 999, 999), 2);
        Edges.due("tank", x.tank(2, 7, 0), 3);
        Edges.refused("reserve", Edges.NO_RANGE, () -> x.reserve(1, 2));
        Edges.refused("reserve", Edges.NO_RANGE, () -> x.reserve(2, 1000));
        Edges.refused("reserve", Edges.NO_RANGE, () -> x.reserve(3, 8));
        Edges.refused("reserve", Edges.NO_RANGE, () -> x.reserve(3, -1));
        Edges.due("reserve", x.reserve(1, 0), 1);
        Edges.due("reserve", x.reserve(1, 1), 0);
        Edges.due("reserve", x.reserve(2, 0), 999);
        Edges.due("reserve", x.reserve(3, 7), 0);
        Edges.due("reserve", x.tankIs(3, 3), 7);
    }

    /** There is no such BILL: none at first, one behind a BILL DAY; what: 0 to 7. */
    static void aBillIsThereBehindABillDay() {
        UtilityWorks x = new UtilityWorks();
        Edges.passDays(x, 29);
        Edges.due("bills", x.bills(0), 0);
        Edges.refused("no bill yet", Edges.NO_THING, () -> x.billIs(0, 0, 0));
        Edges.refused("no bill yet", Edges.NO_THING, () -> x.billIs(0, 0, 8));
        x.pass(1);
        Edges.due("bills", x.bills(0), 1);
        Edges.due("its day", x.billIs(0, 0, 0), 29);
        Edges.due("what is open", x.billIs(0, 0, 7), x.billIs(0, 0, 6));
        Edges.refused("bill -1", Edges.NO_THING, () -> x.billIs(0, -1, 0));
        Edges.refused("bill 1", Edges.NO_THING, () -> x.billIs(0, 1, 0));
        Edges.refused("customer -1", Edges.NO_THING, () -> x.billIs(-1, 0, 0));
        Edges.refused("customer 6", Edges.NO_THING, () -> x.billIs(6, 0, 0));
        Edges.refused("what -1", Edges.NO_RANGE, () -> x.billIs(0, 0, -1));
        Edges.refused("what 8", Edges.NO_RANGE, () -> x.billIs(0, 0, 8));
        Edges.refused("no bill ahead of what", Edges.NO_THING, () -> x.billIs(0, 1, 8));
        Edges.due("customer", x.customer(0, 0), 6);
        Edges.refused("no bill of a new customer", Edges.NO_THING, () -> x.billIs(6, 0, 0));
        Edges.passDays(x, 30);
        Edges.due("bills", x.bills(0), 2);
        Edges.due("its day", x.billIs(0, 1, 0), 59);
        Edges.refused("bill 2", Edges.NO_THING, () -> x.billIs(0, 2, 0));
    }

    /** job(): a GOOD for DIG, MEND and LAY, 0 for the others; a STREET for the KINDS 0 to 3, a CUSTOMER for the others. */
    static void aJobHasAGoodAndAPlaceByItsKind() {
        UtilityWorks x = new UtilityWorks();
        for (int k = 0; k < 7; k++) {
            int kind = k;
            boolean hasGood = kind == 0 || kind == 2 || kind == 3;
            int places = kind <= 3 ? 17 : 6;
            Class<? extends RuntimeException> due = hasGood ? Edges.NO_THING : Edges.NO_RANGE;
            Edges.refused("good 3 of kind " + kind, due, () -> x.job(kind, 3, 0, 0));
            Edges.refused("good -1 of kind " + kind, due, () -> x.job(kind, -1, 0, 0));
            Edges.refused("good 3 and no place", due, () -> x.job(kind, 3, places, 0));
            if (!hasGood) {
                Edges.refused("good 1 of kind " + kind, Edges.NO_RANGE, () -> x.job(kind, 1, 0, 0));
                Edges.refused("good 2 of kind " + kind, Edges.NO_RANGE, () -> x.job(kind, 2, 0, 0));
            }
            Edges.refused("place -1", Edges.NO_THING, () -> x.job(kind, 0, -1, 0));
            Edges.refused("place " + places, Edges.NO_THING, () -> x.job(kind, 0, places, 0));
            Edges.refused("urgency 10 ahead of no place", Edges.NO_RANGE, () -> x.job(kind, 0, places, 10));
            Edges.refused("urgency -1", Edges.NO_RANGE, () -> x.job(kind, 0, 0, -1));
            int number = x.job(kind, hasGood ? 2 : 0, places - 1, 9);
            Edges.due("job", number, 2 * kind);
            Edges.due("its good", x.jobIs(number, 1), hasGood ? 2 : 0);
            Edges.due("its place", x.jobIs(number, 2), places - 1);
            Edges.due("its urgency", x.jobIs(number, 3), 9);
            Edges.due("job", x.job(kind, 0, 0, 0), 2 * kind + 1);
        }
        Edges.refused("kind 7 ahead of no thing", Edges.NO_RANGE, () -> x.job(7, 3, 17, 0));
        Edges.refused("kind -1 ahead of no thing", Edges.NO_RANGE, () -> x.job(-1, 3, 17, 0));
    }

    /** No such LINE, PIPE or MAIN is told as no such STREET is, ahead of what is out of range. */
    static void callsOfALinkWantOne() {
        UtilityWorks x = new UtilityWorks();
        for (int s = 0; s < 17; s++) {
            int street = s;
            boolean line = x.linkIs(0, s, 0) == 1;
            boolean pipe = x.linkIs(1, s, 0) == 1;
            boolean main = x.linkIs(2, s, 0) == 1;
            wantsLink("lineIs", line, () -> x.lineIs(street, 0));
            wantsLink("flowAnew", line, () -> x.flowAnew(street));
            wantsLink("leak", pipe, () -> x.leak(street, 0));
            wantsLink("pipeIs", pipe, () -> x.pipeIs(street, 0));
            wantsLink("waterWithout", pipe, () -> x.waterWithout(street));
            wantsLink("mainIs", main, () -> x.mainIs(street, 0));
            wantsLink("heatWithout", main, () -> x.heatWithout(street));
        }
        Edges.refused("lineIs", Edges.NO_THING, () -> x.lineIs(3, 4));
        Edges.refused("leak", Edges.NO_THING, () -> x.leak(3, 10));
        Edges.refused("pipeIs", Edges.NO_THING, () -> x.pipeIs(3, 6));
        Edges.refused("mainIs", Edges.NO_THING, () -> x.mainIs(3, 4));
    }

    private static void wantsLink(String what, boolean there, Edges.Call call) {
        if (there) {
            Edges.due(what + " is answered", Edges.told(call).startsWith("throws"), false);
        } else {
            Edges.refused(what, Edges.NO_THING, call);
        }
    }

    public static void main(String[] args) {
        Edges.runAll(RangesTest.class);
    }
}
