import java.lang.reflect.InvocationTargetException;
import java.lang.reflect.Method;
import java.util.TreeMap;

/** Runs each method of a class that is named after a promise or a part of the terms. */
final class Cases {
    private Cases() {
    }

    static void run(Class<?> type) throws IllegalAccessException, InvocationTargetException {
        TreeMap<String, Method> cases = new TreeMap<>();
        for (Method method : type.getDeclaredMethods()) {
            if (method.getName().matches("(promise|terms)\\d+_.*")) {
                method.setAccessible(true);
                cases.put(method.getName(), method);
            }
        }
        for (Method method : cases.values()) {
            Run.begin(method.getName());
            method.invoke(null);
        }
        if (cases.isEmpty()) {
            Run.fail("no cases in " + type);
        }
        System.out.println(Run.wrongs() == 0 ? "all " + cases.size() + " cases are as due"
                : Run.wrongs() + " answers are not as due");
        if (Run.wrongs() != 0) {
            System.exit(1);
        }
    }
}
