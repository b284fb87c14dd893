import java.lang.reflect.InvocationTargetException;
import java.lang.reflect.Method;
import java.util.HashMap;
import java.util.Map;

/** One object of the class, to which calls are made as texts, such as "glue 0 1 0 2 5"; a run is calls with commas. */
final class Subject {
    /** What later calls answer is free, so no test may rest on them. */
    static final int LIMIT = 512;
    private static final Map<String, Method> METHODS = methods();

    private final PieceSurfaces object = new PieceSurfaces();
    private final StringBuilder run = new StringBuilder();
    private int calls;

    private static Map<String, Method> methods() {
        Map<String, Method> found = new HashMap<>();
        for (Method m : PieceSurfaces.class.getMethods()) {
            if (m.getDeclaringClass() == PieceSurfaces.class) {
                found.put(m.getName(), m);
            }
        }
        return found;
    }

    static Subject after(String run) {
        Subject x = new Subject();
        if (!run.isEmpty()) {
            for (String text : run.split(", ")) {
                x.call(text);
            }
        }
        return x;
    }

    int call(String text) {
        calls++;
        if (calls > LIMIT) {
            throw new IllegalStateException("more than " + LIMIT + " calls: " + run);
        }
        run.append(run.length() == 0 ? "" : ", ").append(text);
        String[] words = text.split(" ");
        Object[] arguments = new Object[words.length - 1];
        for (int i = 0; i < arguments.length; i++) {
            arguments[i] = Integer.valueOf(words[i + 1]);
        }
        try {
            return (Integer) METHODS.get(words[0]).invoke(object, arguments);
        } catch (InvocationTargetException | IllegalAccessException e) {
            throw new IllegalStateException("after " + run, e);
        }
    }

    /** Makes a call of which the answer is known. */
    void due(String text, int want) {
        String before = run.toString();
        Sentences.check(before, text, call(text), want);
    }

    /** The same for the arguments 0, 1, 2 .. in the place of the sign #. */
    void dueRow(String text, int... wants) {
        for (int i = 0; i < wants.length; i++) {
            due(text.replace("#", Integer.toString(i)), wants[i]);
        }
    }
}
