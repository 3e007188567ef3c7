import java.lang.reflect.Method;
import java.util.ArrayList;
import java.util.Arrays;
import java.util.HashMap;
import java.util.List;
import java.util.Map;

/**
 * Runs of calls on a new object, written as text: "wrong 10; broke 0 1; leave 9 = UNKNOWN; due 0 = 5/2".
 * What stands behind = is due; a share is asked for both its numbers if 'which' is left out.
 */
final class Script {
    static final int MOST_CALLS = 512;

    record Step(String name, int[] arguments, String want) { }

    private static final Map<String, Method> METHODS = new HashMap<>();

    private final Check check;
    private final String about;
    private final SharedFault x = new SharedFault();
    private int calls;

    Script(Check check, String about) {
        this.check = check;
        this.about = about;
    }

    static List<Step> parsed(String steps) {
        List<Step> list = new ArrayList<>();
        for (String step : steps.split(";")) {
            if (!step.isBlank()) {
                list.add(parsedStep(step));
            }
        }
        return list;
    }

    private static Step parsedStep(String step) {
        String[] sides = step.split("=");
        String[] words = sides[0].trim().split(" +");
        int[] arguments = new int[words.length - 1];
        for (int k = 0; k < arguments.length; k++) {
            arguments[k] = number(words[k + 1]);
        }
        return new Step(words[0], arguments, sides.length > 1 ? sides[1].trim() : null);
    }

    private static int number(String word) {
        switch (word) {
            case "least": return Integer.MIN_VALUE;
            case "greatest": return Integer.MAX_VALUE;
            default: return Integer.parseInt(word);
        }
    }

    /** The document's own numbers, not those of the class. */
    static long answer(String word) {
        switch (word) {
            case "UNKNOWN": return -1;
            case "OUTSIDE": return -2;
            case "STATE": return -3;
            case "FULL": return -4;
            case "NONE": return -9;
            case "LOST": return Long.MIN_VALUE;
            default: return Long.parseLong(word);
        }
    }

    Script run(String steps) {
        for (Step step : parsed(steps)) {
            take(step);
        }
        return this;
    }

    private void take(Step step) {
        boolean share = step.arguments.length == arity(step.name) - 1;
        if (step.want == null) {
            ask(step.name, step.arguments);
        } else if (share) {
            String[] numbers = step.want.contains("/") ? step.want.split("/") : new String[] {step.want, step.want};
            for (int which = 0; which < 2; which++) {
                int[] arguments = Arrays.copyOf(step.arguments, step.arguments.length + 1);
                arguments[step.arguments.length] = which;
                compare(step.name, arguments, numbers[which]);
            }
        } else {
            compare(step.name, step.arguments, step.want);
        }
    }

    private void compare(String name, int[] arguments, String want) {
        long got = ask(name, arguments);
        check.is(about + " | call " + calls + ": " + name + Arrays.toString(arguments), got, answer(want));
    }

    private long ask(String name, int[] arguments) {
        calls++;
        if (calls > MOST_CALLS) {
            check.holds(about + " | a test asks more than " + MOST_CALLS + " calls", false);
        }
        return call(x, name, arguments);
    }

    SharedFault object() {
        return x;
    }

    int calls() {
        return calls;
    }

    static int arity(String name) {
        return method(SharedFault.class, name).getParameterCount();
    }

    /** Asks an object, or a model, by the name of the call; a boolean is given as 1 or 0. */
    static long call(Object x, String name, int[] arguments) {
        Method method = method(x.getClass(), name);
        Class<?>[] types = method.getParameterTypes();
        Object[] given = new Object[types.length];
        for (int k = 0; k < types.length; k++) {
            given[k] = types[k] == boolean.class ? (Object) (arguments[k] != 0) : (Object) arguments[k];
        }
        try {
            return ((Number) method.invoke(x, given)).longValue();
        } catch (ReflectiveOperationException e) {
            throw new IllegalStateException(name + Arrays.toString(arguments) + " did not end well", e);
        }
    }

    private static Method method(Class<?> type, String name) {
        return METHODS.computeIfAbsent(type.getName() + "." + name, key -> found(type, name));
    }

    private static Method found(Class<?> type, String name) {
        for (Method method : type.getDeclaredMethods()) {
            if (method.getName().equals(name)) {
                return method;
            }
        }
        throw new IllegalArgumentException("no call " + name);
    }
}
