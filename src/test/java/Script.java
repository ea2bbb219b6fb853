import java.lang.reflect.InvocationTargetException;
import java.lang.reflect.Method;
import java.util.ArrayList;
import java.util.List;

/**
 * Runs scripts of calls, each on a new StepEditor. A line is a call and, behind an arrow, what is
 * due: a number, or the short name of the exception that the call throws. "doc W" stands for the
 * whole document W, "-" for a void call that throws nothing, and # begins a remark. A line without
 * an arrow holds calls that have to be possible, whatever they answer, with semicolons between
 * them; "3 x" ahead of them repeats them.
 *
 * <p>A twin of the object gets just the calls that are not refused. At the end both have to look
 * alike, since a refused call changes nothing.
 */
final class Script {
    private static final List<String> REFUSALS = List.of("index", "argument", "state");
    private static final int DOCUMENTS = 4;
    private static final int CLIENTS = 3;
    private static final int COMMENTS = 10;

    private static int scripts = 0;
    private static int lines = 0;
    private static int wrong = 0;

    private Script() {
    }

    static void run(String name, String script) {
        StepEditor editor = new StepEditor();
        StepEditor twin = new StepEditor();
        scripts++;
        for (String line : script.split("\n")) {
            String text = line.replaceAll("#.*", "").trim();
            if (!text.isEmpty()) {
                runLine(name, editor, twin, text);
            }
        }
        need(looks(editor).equals(looks(twin)), name + ": a refused call changed something");
    }

    /** Prints what came of all scripts and ends with exit code 1 if an answer was wrong. */
    static void end() {
        System.out.println(scripts + " scripts, " + lines + " lines, " + wrong + " wrong");
        if (wrong != 0) {
            System.exit(1);
        }
    }

    private static void need(boolean holds, String fault) {
        if (!holds) {
            wrong++;
            System.out.println(fault);
        }
    }

    private static void runLine(String name, StepEditor editor, StepEditor twin, String text) {
        lines++;
        if (!text.contains("->")) {
            prepare(name, editor, twin, text);
            return;
        }
        String[] halves = text.split("->");
        String call = halves[0].trim();
        String due = halves[1].trim().replaceAll(" +", " ");
        String got = answer(editor, call);
        need(got.equals(due), name + ": " + text + "   but answered " + got);
        if (!REFUSALS.contains(due)) {
            String again = answer(twin, call);
            need(again.equals(due), name + ": " + text + "   but without refused calls " + again);
        }
    }

    private static void prepare(String name, StepEditor editor, StepEditor twin, String text) {
        String[] parts = text.split(" x ");
        int times = parts.length > 1 ? Integer.parseInt(parts[0]) : 1;
        for (int i = 0; i < times; i++) {
            for (String call : parts[parts.length - 1].split("; *")) {
                String got = answer(editor, call);
                need(!isThrown(got), name + ": " + call + "   but answered " + got);
                answer(twin, call);
            }
        }
    }

    private static boolean isThrown(String answer) {
        return REFUSALS.contains(answer) || answer.startsWith("java.");
    }

    /** What an object shows: its documents, versions, lost steps and comments. */
    private static String looks(StepEditor editor) {
        StringBuilder text = new StringBuilder();
        for (int i = 0; i < DOCUMENTS; i++) {
            text.append(document(editor, i)).append("; ");
        }
        for (int i = 0; i < CLIENTS; i++) {
            text.append(editor.version(i)).append(' ').append(editor.lost(i)).append("; ");
        }
        for (int i = 0; i < COMMENTS; i++) {
            text.append(answer(editor, "commentAt " + i)).append(' ');
        }
        return text.toString();
    }

    static String answer(StepEditor editor, String call) {
        String[] words = call.split(" +");
        return words[0].equals("doc")
            ? document(editor, Integer.parseInt(words[1]))
            : invoke(editor, words);
    }

    static String document(StepEditor editor, int whose) {
        StringBuilder text = new StringBuilder();
        for (int i = 0; i < editor.size(whose); i++) {
            text.append(i == 0 ? "" : " ").append(editor.token(whose, i));
        }
        return text.toString();
    }

    private static String invoke(StepEditor editor, String[] words) {
        Method method = methodOf(words[0]);
        List<Object> arguments = new ArrayList<>();
        for (int i = 1; i < words.length; i++) {
            boolean isTruth = method.getParameterTypes()[i - 1] == boolean.class;
            if (isTruth) {
                arguments.add(Boolean.parseBoolean(words[i]));
            } else {
                arguments.add(Integer.parseInt(words[i]));
            }
        }
        try {
            Object answer = method.invoke(editor, arguments.toArray());
            return answer == null ? "-" : answer.toString();
        } catch (InvocationTargetException e) {
            return shortName(e.getCause());
        } catch (IllegalAccessException e) {
            throw new IllegalStateException(e);
        }
    }

    /** The exact class counts: the machine's own exceptions are classes below these. */
    static String shortName(Throwable thrown) {
        if (thrown.getClass() == IndexOutOfBoundsException.class) {
            return "index";
        }
        if (thrown.getClass() == IllegalArgumentException.class) {
            return "argument";
        }
        if (thrown.getClass() == IllegalStateException.class) {
            return "state";
        }
        return thrown.toString();
    }

    static Method methodOf(String name) {
        for (Method method : StepEditor.class.getDeclaredMethods()) {
            if (method.getName().equals(name)) {
                return method;
            }
        }
        throw new IllegalStateException("no method " + name);
    }
}
