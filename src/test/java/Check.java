import java.lang.reflect.InvocationTargetException;
import java.lang.reflect.Method;
import java.lang.reflect.Modifier;
import java.util.Map;
import java.util.TreeMap;

/** Counts and prints the answers that are not as due. */
final class Check {
    private final String test;
    private String part = "";
    private int wrong = 0;

    Check(String test) {
        this.test = test;
    }

    void due(String call, long got, long want) {
        if (got != want) {
            fail(call + " answered " + got + ", due is " + want);
        }
    }

    void due(String what, boolean holds) {
        due(what, holds ? 1 : 0, 1);
    }

    /** Runs the class's static methods without parameters that are not private, so that none is forgotten. */
    void runAll(Class<?> tests) throws IllegalAccessException {
        Map<String, Method> byName = new TreeMap<>();
        for (Method method : tests.getDeclaredMethods()) {
            int is = method.getModifiers();
            if (Modifier.isStatic(is) && !Modifier.isPrivate(is) && method.getParameterCount() == 0) {
                byName.put(method.getName(), method);
            }
        }
        for (Map.Entry<String, Method> one : byName.entrySet()) {
            part = "." + one.getKey();
            run(one.getValue());
        }
        part = "";
        due("some tests ran", !byName.isEmpty());
    }

    private void run(Method one) throws IllegalAccessException {
        try {
            one.invoke(null);
        } catch (InvocationTargetException thrown) {
            fail("ended by " + thrown.getCause());
        }
    }

    private void fail(String how) {
        wrong++;
        System.out.println(test + part + ": " + how);
    }

    /** Ends the test's program with exit code 1 if an answer was wrong. */
    void end() {
        System.out.println(test + (wrong == 0 ? ": all as due" : ": " + wrong + " not as due"));
        if (wrong != 0) {
            System.exit(1);
        }
    }
}
