import java.lang.reflect.InvocationTargetException;
import java.lang.reflect.Method;
import java.util.ArrayList;
import java.util.List;
import java.util.regex.Matcher;
import java.util.regex.Pattern;

/**
 * Runs steps on an object that has the document's calls (DawnCoin, or Model). A step is a call as it is written in
 * Java, with the answer that is due behind it: "say(0, 3) 1", "say(0, 6) OUTSIDE"; without one it is only done:
 * "dawn()"; a number ahead of it does it so often: "98 dawn()". "text YR5" wipes and writes these letters, "town YR500"
 * makes them the town, too.
 */
final class Script {
    private static final Pattern STEP = Pattern.compile("(?:(\\d+) )?(\\w+)\\(([^)]*)\\)(?: (\\S+))?");
    private static final String CHANGING = " write wipe town dawn say deny pay undo hear unhear seed weeks keep again ";
    private static final String REFUSALS = " UNKNOWN OUTSIDE STATE FULL ";

    /** One call with what is due; due is null if the answer is not looked at. */
    record Step(String name, String[] arguments, String due) {
        boolean isRefused() {
            return due != null && REFUSALS.contains(" " + due + " ");
        }

        boolean changes() {
            return CHANGING.contains(" " + name + " ") && !isRefused();
        }

        @Override
        public String toString() {
            return name + "(" + String.join(", ", arguments) + ")";
        }
    }

    private final Object object;
    private int calls;

    Script(Object object) {
        this.object = object;
    }

    int calls() {
        return calls;
    }

    static List<Step> steps(String... told) {
        List<Step> steps = new ArrayList<>();
        for (String step : told) {
            if (step.equals("text") || step.startsWith("text ")) {
                addText(steps, step.substring(4).trim());
            } else if (step.startsWith("town ")) {
                addText(steps, step.substring(5));
                steps.add(new Step("town", new String[0], "TOWN"));
            } else {
                addCalls(steps, step);
            }
        }
        return steps;
    }

    private static void addText(List<Step> steps, String text) {
        steps.add(new Step("wipe", new String[0], null));
        for (char letter : text.toCharArray()) {
            steps.add(new Step("write", new String[] {Integer.toString(letter)}, null));
        }
    }

    private static void addCalls(List<Step> steps, String step) {
        Matcher m = STEP.matcher(step);
        if (!m.matches()) {
            throw new IllegalArgumentException("no step: " + step);
        }
        String[] arguments = m.group(3).isEmpty() ? new String[0] : m.group(3).split(", ");
        int times = m.group(1) == null ? 1 : Integer.parseInt(m.group(1));
        for (int i = 0; i < times; i++) {
            steps.add(new Step(m.group(2), arguments, m.group(4)));
        }
    }

    /** Does all steps; says what was not as due, behind this label. */
    void run(List<Step> steps, Due due, String label) {
        for (Step step : steps) {
            String told = label + ": " + step;
            try {
                long got = call(step);
                if ("TOWN".equals(step.due)) {
                    due.holds(told + " makes a town", got >= 0);
                } else if (step.due != null) {
                    due.is(told, got, number(step.due));
                }
            } catch (InvocationTargetException e) {
                due.holds(told + " threw " + e.getCause(), false);
            }
        }
    }

    private long call(Step step) throws InvocationTargetException {
        calls++;
        for (Method m : object.getClass().getDeclaredMethods()) {
            if (m.getName().equals(step.name) && m.getParameterCount() == step.arguments.length) {
                return invoke(m, step.arguments);
            }
        }
        throw new IllegalArgumentException("no such call: " + step);
    }

    private long invoke(Method m, String[] told) throws InvocationTargetException {
        Object[] arguments = new Object[told.length];
        for (int i = 0; i < told.length; i++) {
            Class<?> type = m.getParameterTypes()[i];
            if (type == int.class) {
                arguments[i] = Integer.valueOf(told[i]);
            } else if (type == long.class) {
                arguments[i] = Long.valueOf(told[i]);
            } else {
                arguments[i] = bool(told[i]);
            }
        }
        try {
            return ((Number) m.invoke(object, arguments)).longValue();
        } catch (IllegalAccessException e) {
            throw new IllegalStateException(e);
        }
    }

    private static boolean bool(String told) {
        if (!told.equals("true") && !told.equals("false")) {
            throw new IllegalArgumentException("neither true nor false: " + told);
        }
        return told.equals("true");
    }

    private static long number(String due) {
        switch (due) {
            case "UNKNOWN": return -1;
            case "OUTSIDE": return -2;
            case "STATE": return -3;
            case "FULL": return -4;
            case "NONE": return -9;
            default: return Long.parseLong(due);
        }
    }
}
