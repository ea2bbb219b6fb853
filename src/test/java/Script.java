import java.lang.reflect.InvocationTargetException;
import java.lang.reflect.Method;
import java.util.ArrayList;
import java.util.List;

/**
 * Runs scripts of calls, each on a new StepEditor. A line is a call and, behind an arrow, what is
 * due: a number, or the short name of the exception that the call throws. "doc W" stands for the
 * whole document W, "-" for a void call that throws nothing, and # begins a remark.
 */
final class Script {
    private static int wrong = 0;
    private static int lines = 0;

    private Script() {
    }

    static void run(String name, String script) {
        StepEditor editor = new StepEditor();
        for (String line : script.split("\n")) {
            String text = line.replaceAll("#.*", "").trim();
            if (!text.isEmpty()) {
                String[] halves = text.split("->");
                String got = answer(editor, halves[0].trim());
                lines++;
                if (!got.equals(halves[1].trim().replaceAll(" +", " "))) {
                    wrong++;
                    System.out.println(name + ": " + text + "   but answered " + got);
                }
            }
        }
    }

    /** Prints what came of all scripts and ends with exit code 1 if an answer was wrong. */
    static void end() {
        System.out.println(lines + " calls, " + wrong + " wrong");
        if (wrong != 0) {
            System.exit(1);
        }
    }

    static String answer(StepEditor editor, String call) {
        String[] words = call.split(" +");
        return words[0].equals("doc")
            ? document(editor, Integer.parseInt(words[1]))
            : invoke(editor, words);
    }

    static String document(StepEditor editor, int whose) {
        StringBuilder text = new StringBuilder();
        for (int i = 0; i < editor.size(whose); i++) {
            text.append(i == 0 ? "" : " ").append(editor.token(whose, i));
        }
        return text.toString();
    }

    private static String invoke(StepEditor editor, String[] words) {
        Method method = methodOf(words[0]);
        List<Object> arguments = new ArrayList<>();
        for (int i = 1; i < words.length; i++) {
            boolean isTruth = method.getParameterTypes()[i - 1] == boolean.class;
            if (isTruth) {
                arguments.add(Boolean.parseBoolean(words[i]));
            } else {
                arguments.add(Integer.parseInt(words[i]));
            }
        }
        try {
            Object answer = method.invoke(editor, arguments.toArray());
            return answer == null ? "-" : answer.toString();
        } catch (InvocationTargetException e) {
            return shortName(e.getCause());
        } catch (IllegalAccessException e) {
            throw new IllegalStateException(e);
        }
    }

    /** The exact class counts: the machine's own exceptions are classes below these. */
    static String shortName(Throwable thrown) {
        if (thrown.getClass() == IndexOutOfBoundsException.class) {
            return "index";
        }
        if (thrown.getClass() == IllegalArgumentException.class) {
            return "argument";
        }
        if (thrown.getClass() == IllegalStateException.class) {
            return "state";
        }
        return thrown.toString();
    }

    static Method methodOf(String name) {
        for (Method method : StepEditor.class.getDeclaredMethods()) {
            if (method.getName().equals(name)) {
                return method;
            }
        }
        throw new IllegalStateException("no method " + name);
    }
}
