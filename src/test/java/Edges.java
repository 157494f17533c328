import java.lang.reflect.InvocationTargetException;
import java.lang.reflect.Method;
import java.lang.reflect.Modifier;
import java.util.ArrayList;
import java.util.Comparator;
import java.util.List;

/** Runs each test of a class that is marked with Edge by itself, so that one that fails hides no other. */
final class Edges {
    private Edges() {
    }

    static void run(Class<?> test) {
        Check check = new Check(test.getSimpleName());
        List<Method> methods = marked(test);
        for (Method method : methods) {
            Edge edge = method.getAnnotation(Edge.class);
            check.under("promise " + edge.promise() + ", \"" + String.join("\", \"", edge.says()) + "\"");
            int before = check.asked();
            try {
                method.invoke(null, check);
            } catch (InvocationTargetException e) {
                check.due(method.getName() + " threw " + e.getCause(), true, false);
            } catch (IllegalAccessException e) {
                check.due(method.getName() + " can't be run", true, false);
            }
            check.due(method.getName() + " asks something", check.asked() > before, true);
        }
        check.under("");
        System.out.println(test.getSimpleName() + ": " + methods.size() + " sentences");
        check.close();
    }

    private static List<Method> marked(Class<?> test) {
        List<Method> methods = new ArrayList<>();
        for (Method method : test.getDeclaredMethods()) {
            if (method.isAnnotationPresent(Edge.class) && Modifier.isStatic(method.getModifiers())) {
                methods.add(method);
            }
        }
        // The machine tells methods in no order of its own.
        methods.sort(Comparator.comparingInt((Method m) -> m.getAnnotation(Edge.class).promise())
            .thenComparing(Method::getName));
        return methods;
    }
}
