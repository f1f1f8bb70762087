import java.lang.reflect.InvocationTargetException;
import java.lang.reflect.Method;
import java.lang.reflect.Modifier;
import java.util.Arrays;
import java.util.Comparator;
import java.util.List;

/** Counts what was looked at, and prints what was not as due. */
final class Check {
    private int looked = 0;
    private int wrong = 0;
    private String test = "";

    interface Call {
        void run();
    }

    interface Make {
        FloorGraph floor();
    }

    interface Use {
        void on(FloorGraph x);
    }

    /** Runs each static method of a class that takes a Check: a test of its own, named as it is. */
    static void runAll(Class<?> tests) {
        Check check = new Check();
        List<Method> methods = Arrays.stream(tests.getDeclaredMethods())
                .filter(Check::isTest)
                .sorted(Comparator.comparing(Method::getName))
                .toList();
        for (Method method : methods) {
            check.runOne(tests.getName(), method);
        }
        check.end(tests.getName() + ": " + methods.size() + " tests");
    }

    private static boolean isTest(Method method) {
        return Modifier.isStatic(method.getModifiers())
                && !method.isSynthetic()
                && Arrays.equals(method.getParameterTypes(), new Class<?>[] {Check.class});
    }

    private void runOne(String tests, Method method) {
        name(tests + "." + method.getName());
        int before = looked;
        try {
            method.setAccessible(true);
            method.invoke(null, this);
            due("anything looked at", looked > before, true);
        } catch (InvocationTargetException e) {
            due("the whole test", "threw " + e.getCause(), "no exception");
        } catch (IllegalAccessException e) {
            due("the whole test", "was not run: " + e, "no exception");
        }
    }

    void name(String told) {
        test = told;
    }

    void due(String call, long got, long want) {
        looked++;
        if (got != want) {
            wrong++;
            System.out.println(test + ": " + call + " answered " + got + ", due is " + want);
        }
    }

    void due(String call, boolean got, boolean want) {
        due(call, got ? 1 : 0, want ? 1 : 0);
    }

    void due(String call, String got, String want) {
        looked++;
        if (!got.equals(want)) {
            wrong++;
            System.out.println(test + ": " + call + " gave " + got + ", due is " + want);
        }
    }

    /** The class must be the very one that the document names, not one below it. */
    void refused(String call, Class<? extends RuntimeException> want, Call made) {
        due(call, thrownBy(made), want.getName());
    }

    void argument(String call, Call made) {
        refused(call, IllegalArgumentException.class, made);
    }

    void unsupported(String call, Call made) {
        refused(call, UnsupportedOperationException.class, made);
    }

    void state(String call, Call made) {
        refused(call, IllegalStateException.class, made);
    }

    void index(String call, Call made) {
        refused(call, ArrayIndexOutOfBoundsException.class, made);
    }

    /** The call is refused, and the floor is then as one on which it was never made. */
    void refusedWhole(String call, Class<? extends RuntimeException> want, Make make, Use made) {
        FloorGraph x = make.floor();
        refused(call, want, () -> made.on(x));
        due("the floor after " + call, Floors.picture(x), Floors.picture(make.floor()));
    }

    /** A wrong argument on the yard of Floors. */
    void wrongArgument(String call, Use made) {
        refusedWhole(call, IllegalArgumentException.class, Floors::yard, made);
    }

    private static String thrownBy(Call made) {
        try {
            made.run();
            return "nothing thrown";
        } catch (RuntimeException e) {
            return e.getClass().getName();
        }
    }

    void end(String tests) {
        System.out.println(tests + ", " + looked + " answers looked at, " + wrong + " not as due");
        if (wrong != 0 || looked == 0) {
            System.exit(1);
        }
    }
}
