import java.lang.reflect.InvocationTargetException;
import java.lang.reflect.Method;
import java.lang.reflect.Modifier;
import java.util.ArrayList;
import java.util.Comparator;
import java.util.List;
import java.util.function.Consumer;
import java.util.function.Supplier;

/** Runs the tests of a class that stand under @Edge, one by one. */
final class Edges {
    private Edges() {
    }

    static List<Method> of(Class<?> tests) {
        List<Method> all = new ArrayList<>();
        for (Method m : tests.getDeclaredMethods()) {
            if (m.isAnnotationPresent(Edge.class)) all.add(m);
        }
        all.sort(Comparator.comparingInt((Method m) -> m.getAnnotation(Edge.class).promise())
            .thenComparing(Method::getName));
        return all;
    }

    static void run(Class<?> tests, Due due) throws IllegalAccessException {
        for (Method m : of(tests)) {
            due.under("promise " + m.getAnnotation(Edge.class).promise() + ", " + m.getName() + ": ");
            int before = due.asked();
            try {
                m.invoke(null);
            } catch (InvocationTargetException e) {
                due.fails("it threw " + e.getCause());
            }
            if (due.asked() == before) due.fails("nothing was asked");
        }
        for (Method m : tests.getDeclaredMethods()) {
            boolean test = Modifier.isStatic(m.getModifiers()) && !Modifier.isPrivate(m.getModifiers())
                && m.getParameterCount() == 0 && !m.isSynthetic();
            if (test && !m.isAnnotationPresent(Edge.class)) due.fails(m.getName() + " stands under no @Edge");
        }
        due.end();
    }

    /** "What is answered so changes nothing": the calls leave a town as one to which nobody came. */
    static void changesNothing(Due due, Supplier<ShieldLine> town, Consumer<ShieldLine> calls) {
        ShieldLine x = town.get();
        calls.accept(x);
        due.same("what is seen behind the calls", Whole.seen(x), Whole.seen(town.get()));
    }

    static void changesNothing(Due due, Consumer<ShieldLine> calls) {
        changesNothing(due, Whole::town, calls);
    }
}
