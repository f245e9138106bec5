import java.lang.reflect.InvocationTargetException;
import java.lang.reflect.Method;
import java.util.ArrayList;
import java.util.HashMap;
import java.util.List;
import java.util.Map;
import java.util.regex.Matcher;
import java.util.regex.Pattern;

/** A run of calls on a new object, written as text: "enter(25, 10) lose(0, 4) silence(0, true) tick(1)". */
final class Run {
    // What an object answers after that is free, so no test may ask.
    private static final int MOST_CALLS = 512;
    private static final Pattern CALL = Pattern.compile("\\s*(\\w+)\\(([^()]*)\\)\\s*");
    private static final Map<String, Method> METHODS = new HashMap<>();

    static {
        for (Method method : HybridTrack.class.getDeclaredMethods()) {
            METHODS.put(method.getName(), method);
        }
    }

    private final HybridTrack track = new HybridTrack();
    private int made = 0;

    /** The object after a start, none of whose calls may throw. */
    static Run after(String start) {
        Run run = new Run();
        for (String answer : run.make(start)) {
            if (answer.startsWith("throws.")) {
                Due.tell("the start " + start + " " + answer);
            }
        }
        return run;
    }

    /** Makes the calls; their answers, and throws.X where X is thrown. */
    List<String> make(String calls) {
        List<String> answers = new ArrayList<>();
        Matcher call = CALL.matcher(calls);
        int from = 0;
        while (from < calls.length()) {
            if (!call.find(from) || call.start() != from) {
                throw new IllegalArgumentException("no call: " + calls.substring(from));
            }
            answers.add(answer(METHODS.get(call.group(1)), call.group(2).split(",\\s*")));
            from = call.end();
        }
        return answers;
    }

    private String answer(Method method, String[] arguments) {
        made++;
        if (made > MOST_CALLS) {
            throw new IllegalStateException("a test makes more calls than the document allows");
        }
        Object[] values = new Object[arguments.length];
        for (int i = 0; i < arguments.length; i++) {
            values[i] = method.getParameterTypes()[i] == boolean.class
                ? (Object) Boolean.valueOf(arguments[i]) : (Object) number(arguments[i]);
        }
        try {
            return String.valueOf(method.invoke(track, values));
        } catch (InvocationTargetException e) {
            return "throws." + e.getCause().getClass().getSimpleName();
        } catch (IllegalAccessException e) {
            throw new IllegalStateException(e);
        }
    }

    private static Integer number(String written) {
        switch (written) {
            case "least": return Integer.MIN_VALUE;
            case "greatest": return Integer.MAX_VALUE;
            default: return Integer.valueOf(written);
        }
    }
}
