import java.util.Random;
import java.util.TreeMap;

/** Random runs of calls, the same ones on StepEditor and on the Model: both have to answer alike. */
public final class ModelTest {
    private static final int RUNS = 3000;
    private static final int CALLS = 150;
    private static final int[] EDGES = {Integer.MIN_VALUE, -101, -2, -1, 61, 100, Integer.MAX_VALUE};

    private final Random random;
    private final StepEditor editor = new StepEditor();
    private final Model model = new Model();
    private final int haste;
    private final StringBuilder history = new StringBuilder();
    private final TreeMap<String, Integer> seen;

    private ModelTest(long seed, TreeMap<String, Integer> seen) {
        this.random = new Random(seed);
        this.seen = seen;
        this.haste = random.nextInt(4);
    }

    public static void main(String[] args) {
        int runs = args.length > 0 ? Integer.parseInt(args[0]) : RUNS;
        TreeMap<String, Integer> seen = new TreeMap<>();
        int wrong = 0;
        for (int i = 0; i < runs && wrong < 3; i++) {
            wrong += new ModelTest(i, seen).run() ? 0 : 1;
        }
        System.out.println(runs + " runs, " + wrong + " wrong");
        System.out.println(seen);
        if (wrong != 0) {
            System.exit(1);
        }
    }

    private boolean run() {
        int shape = random.nextInt(4);
        for (int i = 0; i < (shape == 0 ? 0 : 12); i++) {
            if (!isAlike(shape == 1 ? looseRule(i) : anyRule(), true)) {
                return false;
            }
        }
        for (int i = 0; i < CALLS; i++) {
            String call = nextCall();
            if (!isAlike(call, true)) {
                return false;
            }
            for (String look : Model.looks()) {
                if (!isAlike(look, false)) {
                    return false;
                }
            }
        }
        return true;
    }

    private boolean isAlike(String call, boolean isStep) {
        String due = model.answer(call);
        String got = Script.answer(editor, call);
        if (isStep) {
            history.append(call).append(" -> ").append(due).append('\n');
            boolean isRefused = due.matches("[a-z]+") && !due.equals("true");
            seen.merge(call.split(" ")[0] + (isRefused ? " " + due : ""), 1, Integer::sum);
        }
        if (!due.equals(got)) {
            System.out.println(history + "then " + call + " answered " + got + ", due is " + due);
        }
        return due.equals(got);
    }

    /** Rules that let nearly all be valid, so that steps come to odd places. */
    private String looseRule(int i) {
        return i < 6 ? "rule " + i + " 0 126 2" : "rule " + (i - 6) + " 1 0 0";
    }

    private String anyRule() {
        return "rule " + random.nextInt(6) + " " + random.nextInt(3) + " " + 2 * random.nextInt(64)
            + " " + random.nextInt(4);
    }

    private int sizeOf(int whose) {
        return editor.size(whose);
    }

    private int position(int whose) {
        return wild(random.nextInt(sizeOf(whose) + 1));
    }

    /** A position ahead of a token that opens a node, or any. */
    private int opening(int whose) {
        int from = random.nextInt(sizeOf(whose) + 1);
        for (int i = from; i < sizeOf(whose); i++) {
            int token = editor.token(whose, i);
            if (token >= 1 && token <= 5) {
                return wild(i);
            }
        }
        return wild(from);
    }

    /** Now and then another number than the one that fits. */
    private int wild(int usual) {
        return random.nextInt(150) == 0 ? EDGES[random.nextInt(EDGES.length)] : usual;
    }

    private String stretch(int whose) {
        int from = random.nextInt(sizeOf(whose) + 1);
        int to = Math.min(sizeOf(whose), from + 1 + random.nextInt(random.nextBoolean() ? 4 : 20));
        return wild(from) + " " + wild(to);
    }

    private String nextCall() {
        int client = random.nextInt(3);
        String who = " " + wild(client) + " ";
        // With less haste a client has more steps that meet those of others.
        switch (random.nextInt(haste == 0 && random.nextInt(3) > 0 ? 24 : 30)) {
            case 0: case 1: case 2: case 3:
                return "type" + who + position(client) + " " + wild(random.nextInt(26));
            case 4: case 5: case 6:
                return "erase" + who + stretch(client);
            case 7: case 8:
                return "split" + who + position(client);
            case 9: case 10:
                return "join" + who + opening(client);
            case 11: case 12:
                return "wrap" + who + stretch(client) + " " + wild(1 + random.nextInt(5));
            case 13: case 14:
                return "unwrap" + who + opening(client);
            case 15:
                return "setType" + who + opening(client) + " " + wild(1 + random.nextInt(5));
            case 16: case 17:
                return "mark" + who + stretch(client) + " " + wild(random.nextInt(2)) + " "
                    + random.nextBoolean();
            case 18:
                return "copy" + who + stretch(client);
            case 19: case 20:
                return "paste" + who + position(client);
            case 21:
                return "takeBack" + who;
            case 22: case 23:
                return "revert" + who + wild(random.nextInt(1 + editor.version(client) / 100));
            case 24: case 25:
                return "send" + who;
            case 26: case 27:
                return "receive" + who;
            case 28:
                return random.nextBoolean() ? "comment " + stretch(3) : "around" + who + position(client);
            default:
                return random.nextInt(4) == 0 ? anyRule() : "token " + wild(3) + " " + position(3);
        }
    }
}
