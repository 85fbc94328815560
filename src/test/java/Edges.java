import java.lang.reflect.InvocationTargetException;
import java.lang.reflect.Method;
import java.lang.reflect.Modifier;
import java.util.ArrayList;
import java.util.Comparator;
import java.util.List;

/** What the tests of edges share: answers that are due, calls that are refused, and how the tests are run. */
final class Edges {
    static final Class<? extends RuntimeException> NO_THING = IndexOutOfBoundsException.class;
    static final Class<? extends RuntimeException> NO_RANGE = IllegalArgumentException.class;
    static final Class<? extends RuntimeException> NO_STATE = IllegalStateException.class;

    private static int wrong;
    private static String test = "";

    private Edges() {
    }

    interface Call {
        Object answer();
    }

    interface Change {
        void to(UtilityWorks x);
    }

    static void wrong(String what) {
        wrong++;
        System.out.println(test + ": " + what);
    }

    static void due(String what, long got, long want) {
        if (got != want) {
            wrong(what + " answered " + got + ", due is " + want);
        }
    }

    static void due(String what, boolean got, boolean want) {
        if (got != want) {
            wrong(what + " answered " + got + ", due is " + want);
        }
    }

    /** What a call answers, as a text: a number, or the exception that it throws. */
    static String told(Call call) {
        try {
            Object answer = call.answer();
            return answer instanceof Boolean b ? (b ? "1" : "0") : answer.toString();
        } catch (RuntimeException e) {
            return "throws." + e.getClass().getSimpleName();
        }
    }

    static void refused(String what, Class<? extends RuntimeException> want, Call call) {
        String got = told(call);
        if (!got.equals("throws." + want.getSimpleName())) {
            wrong(what + " answered " + got + ", due is throws." + want.getSimpleName());
        }
    }

    static void passDays(UtilityWorks x, int days) {
        for (int left = days; left > 0; left -= 60) {
            x.pass(Math.min(left, 60));
        }
    }

    /** Lets DAYS go by up to this one. */
    static void passTo(UtilityWorks x, int day) {
        passDays(x, day - x.count(0));
    }

    /** Digs a STREET up by a PERMIT of today, which is gone then again. */
    static void dig(UtilityWorks x, int street) {
        int permit = x.permit(0, street, x.count(0), 1);
        x.hire(street, true);
        x.drop(permit);
    }

    /** Lays a LINK of WATER or HEAT, turns it ON, and fills the STREET again. */
    static void layUnder(UtilityWorks x, int good, int street, int bound) {
        dig(x, street);
        x.lay(good, street, bound);
        x.turn(good, street, true);
        x.hire(street, false);
    }

    /** Tells a CUSTOMER with one NEED, CONNECTED to that GOOD alone. */
    static int customer(UtilityWorks x, int crossing, int rank, int good, int need) {
        int customer = x.customer(crossing, rank);
        x.need(customer, good, need);
        x.connect(customer, good, true);
        return customer;
    }

    /** A CUSTOMER is CONNECTED to nothing any more. */
    static void disconnect(UtilityWorks x, int customer) {
        for (int good = 0; good < 3; good++) {
            x.connect(customer, good, false);
        }
    }

    /** An old town whose CUSTOMERS, WELLS and BOILER ask for nothing. */
    static UtilityWorks quiet() {
        UtilityWorks x = new UtilityWorks();
        for (int customer = 0; customer < 6; customer++) {
            disconnect(x, customer);
        }
        x.pump(0, false);
        x.pump(1, false);
        x.light(0, false);
        return x;
    }

    /** Runs each method of a class of tests that takes nothing, and ends with exit code 1 if an answer was not due. */
    static void runAll(Class<?> tests) {
        List<Method> methods = new ArrayList<>();
        for (Method m : tests.getDeclaredMethods()) {
            boolean isTest = m.getParameterCount() == 0 && m.getReturnType() == void.class && !m.isSynthetic();
            if (isTest && Modifier.isStatic(m.getModifiers())) {
                methods.add(m);
            }
        }
        methods.sort(Comparator.comparing(Method::getName));
        for (Method m : methods) {
            run(m);
        }
        System.out.println(methods.size() + " tests, " + (wrong == 0 ? "all answers are as due" : wrong + " wrong"));
        if (wrong != 0) {
            System.exit(1);
        }
    }

    private static void run(Method m) {
        test = m.getName();
        try {
            m.setAccessible(true);
            m.invoke(null);
        } catch (InvocationTargetException e) {
            wrong("was cut short by " + e.getCause());
            e.getCause().printStackTrace(System.out);
        } catch (IllegalAccessException e) {
            wrong("can't be run");
        }
    }
}
