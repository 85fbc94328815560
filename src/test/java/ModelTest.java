import java.lang.reflect.InvocationTargetException;
import java.lang.reflect.Method;
import java.util.ArrayList;
import java.util.Comparator;
import java.util.HashMap;
import java.util.List;
import java.util.Map;
import java.util.Random;

/**
 * Asks UtilityWorks and the Model the same, in runs of up to 512 calls with seeds that are written here, and tells each
 * answer that differs. An exception has to be the Model's one, and thrown by a throw statement of the class, not by
 * the machine.
 */
public final class ModelTest {
    private static final int RUNS = Integer.getInteger("runs", 60);
    private static final long SEED = Long.getLong("seed", 1);
    private static final int CALLS = 512;
    private static final int SWEEP = Integer.getInteger("sweep", 128);

    private static final List<Method> FACE = face();
    private static final Map<String, Method> MODEL = model();
    private static final Map<String, Integer> ASKED = new HashMap<>();
    private static final Map<String, Integer> ANSWERED = new HashMap<>();

    private static final int NONE = -1;
    private static final int HEAT = 2;

    private static int wrong;
    private static int focus;
    private static int part;
    private static int longest;

    /** Calls that change the town, and so are worth more than those that only tell. */
    private static final List<String> CHANGING = List.of("turn", "bound", "lay", "breaks", "pass", "pass", "pass",
            "pass", "keep", "bring", "height", "surface", "market", "permit", "permit", "share", "drop", "hire", "hire",
            "plant", "start", "well", "tank", "pump", "reserve", "leak", "fire", "boiler", "coal", "light", "light",
            "customer", "need", "connect", "connect", "unseal", "slow", "seal", "read", "estimate", "tariff", "pay",
            "pay", "split", "split", "poor", "fund", "crew", "overtime", "leave", "job", "job", "job", "job", "dropJob",
            "order", "least", "weather", "weather", "draws", "storm", "storm", "alarm", "report");

    /** Of a run that is about one part, what changes: POWER, WATER, HEAT, books, crews. */
    private static final List<List<String>> PARTS = List.of(
            List.of("turn", "turn", "turn", "bound", "bound", "lay", "breaks", "plant", "start", "need", "connect",
                    "customer", "pump", "light", "pass", "pass", "storm", "weather", "height", "job"),
            List.of("turn", "bound", "bound", "bound", "lay", "breaks", "height", "height", "well", "tank", "pump",
                    "reserve", "leak", "leak", "fire", "need", "connect", "customer", "weather", "pass", "pass", "pass",
                    "light", "boiler", "start", "report"),
            List.of("turn", "bound", "bound", "bound", "bound", "lay", "breaks", "weather", "weather", "weather",
                    "need", "need", "connect", "connect", "customer", "boiler", "coal", "coal", "order", "light",
                    "light", "pass", "pass", "report"),
            List.of("pass", "pass", "pass", "pay", "pay", "split", "poor", "fund", "tariff", "read", "estimate",
                    "connect", "need", "unseal", "slow", "seal", "customer", "coal", "order", "turn", "job", "dropJob",
                    "keep", "bring"),
            List.of("job", "job", "job", "job", "dropJob", "leave", "overtime", "crew", "permit", "permit", "share",
                    "drop", "hire", "hire", "breaks", "breaks", "order", "least", "weather", "alarm", "alarm", "storm",
                    "surface", "market", "height", "pass", "pass", "pass", "lay", "keep", "bring"));

    private static List<Method> face() {
        List<Method> all = new ArrayList<>();
        for (Method m : UtilityWorks.class.getMethods()) {
            if (m.getDeclaringClass() == UtilityWorks.class) {
                all.add(m);
            }
        }
        all.sort(Comparator.comparing(Method::getName));
        return all;
    }

    private static Map<String, Method> model() {
        Map<String, Method> all = new HashMap<>();
        for (Method m : Model.class.getMethods()) {
            all.put(m.getName(), m);
        }
        return all;
    }

    private static Object call(Object on, Method m, Object[] args) {
        try {
            Object answer = m.invoke(on, args);
            return answer instanceof Boolean b ? (long) (b ? 1 : 0) : ((Number) answer).longValue();
        } catch (InvocationTargetException e) {
            Throwable t = e.getCause();
            String by = t.getStackTrace().length == 0 ? "?" : t.getStackTrace()[0].getMethodName();
            boolean ours = by.startsWith("need") || on instanceof Model;
            return "throws." + t.getClass().getSimpleName() + (ours ? "" : " by the machine in " + by);
        } catch (IllegalAccessException e) {
            throw new AssertionError(e);
        }
    }

    private static final int[] EDGES = {-1, 0, 1, 2, 3, 4, 5, 9, 10, 11, 12, 16, 17, 60, 61, 99, 100, 127, 128, 300, 301,
        500, 501, 998, 999, 1000, 9999, 10000, 99999, 100000, 65536, 65537, -30, -31, 40, 41, Integer.MAX_VALUE,
        Integer.MIN_VALUE};

    private static int around(Random random, int low, int high) {
        return low + random.nextInt(high - low + 1);
    }

    /** The ranges of a call's int arguments, low and high in turn. */
    private static int[] ranges(String name) {
        switch (name) {
            case "linkIs": return new int[] {0, 2, 0, 16, 0, 4};
            case "turn": case "breaks": case "gain": return new int[] {0, 2, 0, 16};
            case "bound": case "lay": return new int[] {0, 2, 0, 16, 1, 70};
            case "joined": return new int[] {0, 2, 0, 11, 0, 11};
            case "pass": return new int[] {1, longest};
            case "keep": case "bring": return new int[] {0, 1};
            case "count": return new int[] {0, 9};
            case "height": return new int[] {0, 11, 0, 60};
            case "surface": return new int[] {0, 16, 0, 2};
            case "market": return new int[] {0, 16, 0, 127};
            case "may": return new int[] {0, 16, 0, 200, 1, 9};
            case "firstFree": return new int[] {0, 16, 1, 9};
            case "permit": return new int[] {0, 2, 0, 16, 0, 200, 1, 9};
            case "share": return new int[] {0, 5, 0, 2};
            case "drop": return new int[] {0, 15};
            case "permitIs": return new int[] {0, 7, 0, 6};
            case "hire": return new int[] {0, 16};
            case "streetIs": return new int[] {0, 16, 0, 8};
            case "way": return new int[] {0, 11, 0, 11};
            case "wayIs": return new int[] {0, 11, 0, 11, 0, 6};
            case "plant": return new int[] {0, 11, 1, 100};
            case "start": return new int[] {0, 3};
            case "plantIs": return new int[] {0, 3, 0, 3};
            case "powerAt": return new int[] {0, 11, 0, 4};
            case "lineIs": return new int[] {0, 16, 0, 3};
            case "flowAnew": case "waterWithout": case "heatWithout": return new int[] {0, 16};
            case "shed": return new int[] {0, 2};
            case "dark": case "warmth": case "owes": case "poor": case "bills": case "billNow":
                return new int[] {0, 9};
            case "switching": return new int[] {0, 1};
            case "powerSum": return new int[] {0, 5};
            case "well": return new int[] {0, 11, 1, 99, 0, 60};
            case "tank": return new int[] {0, 11, 1, 400, 0, 60};
            case "pump": return new int[] {0, 2};
            case "reserve": return new int[] {0, 3, 0, 200};
            case "leak": return new int[] {0, 16, 0, 9};
            case "wellIs": return new int[] {0, 2, 0, 6};
            case "tankIs": return new int[] {0, 3, 0, 5};
            case "pipeIs": return new int[] {0, 16, 0, 5};
            case "waterAt": return new int[] {0, 11, 0, 5};
            case "waterAnew": case "force": return new int[] {0, 11};
            case "fire": return new int[] {0, 11, 1, 60};
            case "waterSum": return new int[] {0, 6};
            case "boiler": return new int[] {0, 11, 10, 150};
            case "coal": return new int[] {0, 1, 1, 60};
            case "light": case "lasts": return new int[] {0, 1};
            case "boilerIs": return new int[] {0, 1, 0, 8};
            case "mainIs": return new int[] {0, 16, 0, 3};
            case "heatAt": return new int[] {0, 11, 0, 2};
            case "heatSum": return new int[] {0, 4};
            case "customer": return new int[] {0, 11, 0, 9};
            case "need": return new int[] {0, 9, 0, 2, 0, 20};
            case "connect": case "unseal": case "seal": case "read": case "estimate":
                return new int[] {0, 9, 0, 2};
            case "customerIs": return new int[] {0, 9, 0, 11};
            case "meterIs": return new int[] {0, 9, 0, 2, 0, 8};
            case "slow": return new int[] {0, 9, 0, 2, 0, 90};
            case "loss": case "suspect": return new int[] {0, 2};
            case "tariff": return new int[] {0, 2, 0, 3, 0, 120};
            case "pay": return new int[] {0, 9, 1, 20000};
            case "split": return new int[] {0, 9, 2, 6};
            case "planIs": return new int[] {0, 9, 0, 3};
            case "fund": return new int[] {1, 20000};
            case "billIs": return new int[] {0, 9, 0, 4, 0, 7};
            case "notice": return new int[] {0, 9, 0, 1};
            case "journal": return new int[] {0, 6};
            case "crew": return new int[] {0, 11, 1, 31, 1, 4};
            case "crewIs": return new int[] {0, 3, 0, 6};
            case "overtime": case "leave": case "nextJob": return new int[] {0, 3};
            case "job": return new int[] {0, 6, 0, 0, 0, 9, 0, 9};
            case "jobIs": return new int[] {0, 40, 0, 5};
            case "dropJob": return new int[] {0, 40};
            case "order": return new int[] {0, 3, 1, 20};
            case "least": return new int[] {0, 3, 0, 20};
            case "storeIs": return new int[] {0, 3, 0, 6};
            case "spent": return new int[] {0, 1};
            case "weather": return new int[] {-30, 25, 0, 9, 0, 9};
            case "draws": return new int[] {0, 65536};
            case "storm": return new int[] {0, 2, 1, 9};
            case "weatherIs": return new int[] {0, 6};
            case "stormIs": return new int[] {0, 3, 0, 3};
            case "mending": return new int[] {0, 3};
            case "report": return new int[] {0, 5};
            default: return new int[0];
        }
    }

    private static Object[] arguments(Random random, Method m, int day) {
        int[] ranges = ranges(m.getName());
        Object[] args = new Object[m.getParameterCount()];
        int place = 0;
        for (int k = 0; k < args.length; k++) {
            if (m.getParameterTypes()[k] == boolean.class) {
                args[k] = random.nextInt(3) > 0;
            } else {
                boolean edge = random.nextInt(60) == 0;
                args[k] = edge ? EDGES[random.nextInt(EDGES.length)]
                        : around(random, ranges[2 * place], ranges[2 * place + 1]);
                place++;
            }
        }
        if (m.getName().equals("permit") && random.nextInt(10) > 0) {
            args[2] = day + (random.nextInt(3) == 0 ? random.nextInt(8) : 0);
        }
        focus(random, m.getName(), args);
        if (part <= 2 && List.of("turn", "bound", "lay", "breaks", "need", "connect").contains(m.getName())) {
            int at = m.getName().equals("need") || m.getName().equals("connect") ? 1 : 0;
            args[at] = random.nextInt(4) > 0 ? part : args[at];
        }
        if (part == HEAT && m.getName().equals("weather")) {
            args[0] = around(random, -30, 20);
            args[2] = random.nextInt(4);
        }
        if (m.getName().equals("job")) {
            int kind = (Integer) args[0];
            if (kind == 0 || kind == 2 || kind == 3) {
                args[1] = random.nextInt(30) == 0 ? 3 : random.nextInt(3);
            }
            if (kind <= 3) {
                args[2] = random.nextInt(40) == 0 ? 17 : random.nextInt(2) == 0 ? focus : random.nextInt(17);
            }
        }
        return args;
    }

    /** Much happens in one STREET of a run, so that permits, hired men, jobs and links meet there. */
    private static void focus(Random random, String name, Object[] args) {
        int place = List.of("permit", "linkIs", "turn", "lay", "breaks", "gain").contains(name) ? 1
                : List.of("may", "firstFree", "hire", "surface", "market", "streetIs").contains(name) ? 0 : NONE;
        if (place != NONE && random.nextInt(2) == 0) {
            args[place] = focus;
        }
    }

    private static String text(Method m, Object[] args) {
        StringBuilder text = new StringBuilder(m.getName()).append('(');
        for (int k = 0; k < args.length; k++) {
            text.append(k == 0 ? "" : ", ").append(args[k]);
        }
        return text.append(')').toString();
    }

    private static boolean compare(int run, int n, UtilityWorks x, Model model, Method m, Object[] args) {
        Object got = call(x, m, args);
        Object due = call(model, MODEL.get(m.getName()), args);
        ASKED.merge(m.getName(), 1, Integer::sum);
        if (!due.toString().startsWith("throws")) {
            ANSWERED.merge(m.getName(), 1, Integer::sum);
        }
        if (!got.equals(due)) {
            wrong++;
            System.out.println("run " + run + ", call " + n + ": " + text(m, args) + " answered " + got + ", due is "
                    + due);
            return false;
        }
        return true;
    }

    private static Method named(String name) {
        for (Method m : FACE) {
            if (m.getName().equals(name)) {
                return m;
            }
        }
        throw new AssertionError(name);
    }

    /** Asks all that changes nothing, with all arguments that there are. */
    private static boolean sweep(int run, int n, UtilityWorks x, Model model) {
        for (Method m : FACE) {
            boolean tells = !CHANGING.contains(m.getName()) && !m.getName().startsWith("isSound");
            int[] ranges = ranges(m.getName());
            Object[] args = new Object[m.getParameterCount()];
            int many = 1;
            for (int k = 0; tells && k < args.length; k++) {
                many *= ranges[2 * k + 1] - ranges[2 * k] + 1;
            }
            for (int choice = 0; tells && many <= 1500 && choice < many; choice++) {
                int rest = choice;
                for (int k = 0; k < args.length; k++) {
                    int size = ranges[2 * k + 1] - ranges[2 * k] + 1;
                    args[k] = ranges[2 * k] + rest % size;
                    rest /= size;
                }
                if (!compare(run, n, x, model, m, args)) {
                    return false;
                }
            }
        }
        return true;
    }

    /** Lays more LINKS of the run's part, so that there are ways and rings to choose from. */
    private static boolean layMore(int run, UtilityWorks x, Model model, Random random) {
        boolean alike = true;
        for (int s = 0; s < 17; s++) {
            if (random.nextInt(2) == 0) {
                int bound = around(random, 5, 80);
                alike = alike && compare(run, -1, x, model, named("permit"), new Object[] {part, s, 0, 1})
                        && compare(run, -1, x, model, named("hire"), new Object[] {s, true})
                        && compare(run, -1, x, model, named("lay"), new Object[] {part, s, bound})
                        && compare(run, -1, x, model, named("turn"), new Object[] {part, s, true})
                        && compare(run, -1, x, model, named("hire"), new Object[] {s, false})
                        && compare(run, -1, x, model, named("drop"), new Object[] {0});
            }
        }
        return alike && (part != HEAT || warmMore(run, x, model, random));
    }

    /** Builds and lights a second BOILER, and tells CUSTOMERS who NEED much HEAT. */
    private static boolean warmMore(int run, UtilityWorks x, Model model, Random random) {
        int at = new int[] {0, 2, 3, 4, 5}[random.nextInt(5)];
        boolean alike = compare(run, -1, x, model, named("boiler"), new Object[] {at, around(random, 10, 150)})
                && compare(run, -1, x, model, named("coal"), new Object[] {1, around(random, 1, 150)})
                && compare(run, -1, x, model, named("light"), new Object[] {1, true})
                && compare(run, -1, x, model, named("start"), new Object[] {1, true});
        for (int customer = 6; customer < 9; customer++) {
            alike = alike
                    && compare(run, -1, x, model, named("customer"), new Object[] {random.nextInt(12), 9})
                    && compare(run, -1, x, model, named("need"), new Object[] {customer, HEAT, random.nextInt(21)})
                    && compare(run, -1, x, model, named("connect"), new Object[] {customer, HEAT, true});
        }
        return alike;
    }

    /** Lets so many DAYS go by that the last one is near, or the WHEELS have gone round. */
    private static boolean age(int run, UtilityWorks x, Model model, Random random) {
        boolean alike = compare(run, -1, x, model, named("need"), new Object[] {random.nextInt(6), 0, 20});
        for (int left = 480 + random.nextInt(515); alike && left > 0; left -= 60) {
            alike = compare(run, -1, x, model, named("pass"), new Object[] {Math.min(60, left)});
        }
        return alike;
    }

    private static void run(int number) {
        Random random = new Random(SEED * 1000003 + number);
        UtilityWorks x = new UtilityWorks();
        Model model = new Model();
        // some runs change much, some ask much, some let many days go by
        int changes = 1 + random.nextInt(4);
        focus = random.nextInt(17);
        longest = new int[] {3, 12, 30, 60}[random.nextInt(4)];
        part = random.nextInt(PARTS.size() + 1);
        List<String> changing = part < PARTS.size() ? PARTS.get(part) : CHANGING;
        if (part <= HEAT && !layMore(number, x, model, random)) {
            return;
        }
        if (number % 6 == 5 && !age(number, x, model, random)) {
            return;
        }
        for (int n = 0; n < CALLS; n++) {
            boolean change = random.nextInt(5) < changes;
            Method m = change ? named(changing.get(random.nextInt(changing.size())))
                    : FACE.get(random.nextInt(FACE.size()));
            if (!compare(number, n, x, model, m, arguments(random, m, x.count(0)))) {
                return;
            }
            if (n % SWEEP == SWEEP - 1 && !sweep(number, n, x, model)) {
                return;
            }
        }
    }

    public static void main(String[] args) {
        for (int run = 0; run < RUNS && wrong < 10; run++) {
            run(run);
        }
        for (Method m : FACE) {
            int answered = ANSWERED.getOrDefault(m.getName(), 0);
            if (Boolean.getBoolean("counts")) {
                System.out.println(m.getName() + " " + answered + " of " + ASKED.getOrDefault(m.getName(), 0));
            }
            if (answered == 0) {
                wrong++;
                System.out.println(m.getName() + " was never answered");
            }
        }
        System.out.println(wrong == 0 ? "the class and the model answer alike" : wrong + " answers differ");
        if (wrong != 0) {
            System.exit(1);
        }
    }
}
