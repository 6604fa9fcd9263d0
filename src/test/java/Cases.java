import java.lang.reflect.InvocationTargetException;
import java.lang.reflect.Method;
import java.util.Map;
import java.util.TreeMap;

/**
 * Runs the cases of a test: each method whose name is p, the promise's number, and the case, so
 * that none is forgotten. A case that checks nothing is wrong.
 */
final class Cases {
    private Cases() {
    }

    static void run(Class<?> test) {
        Checks checks = new Checks();
        Map<String, Method> cases = casesOf(test);
        for (Map.Entry<String, Method> one : cases.entrySet()) {
            checks.begin(one.getKey());
            int before = checks.made();
            checks.same("the case", "ends", endOf(one.getValue(), checks));
            checks.same("it checks something", true, checks.made() > before + 1);
        }
        checks.finish(test.getSimpleName() + ": " + cases.size() + " cases");
    }

    private static Map<String, Method> casesOf(Class<?> test) {
        String number = test.getSimpleName().substring("Promise".length(), "Promise".length() + 2);
        Map<String, Method> cases = new TreeMap<String, Method>();
        for (Method method : test.getDeclaredMethods()) {
            if (method.getName().startsWith("p" + number + "_")) {
                cases.put(method.getName(), method);
            }
        }
        return cases;
    }

    private static Object endOf(Method method, Checks checks) {
        try {
            method.invoke(null, checks);
            return "ends";
        } catch (InvocationTargetException e) {
            e.getCause().printStackTrace(System.out);
            return e.getCause();
        } catch (IllegalAccessException e) {
            return e;
        }
    }
}
