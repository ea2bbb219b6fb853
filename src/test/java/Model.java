import java.util.ArrayList;
import java.util.Arrays;
import java.util.List;
import java.util.regex.Pattern;

/**
 * The document's words a second time, in another form than StepEditor: immutable steps, documents
 * that are made anew from the first one at each look, and rules as regular expressions.
 */
final class Model {
    /** One range of a change: what is taken and what is put at a position. */
    record Range(int start, List<Integer> taken, List<Integer> put) {
        int end() {
            return start + taken.size();
        }
    }

    /** A change if the ranges are there, otherwise a marking. */
    record Step(List<Range> ranges, int from, int to, int mark, boolean isSet) {
        static Step change(Range... ranges) {
            return new Step(List.of(ranges), 0, 0, 0, false);
        }

        boolean isMarking() {
            return ranges.isEmpty();
        }

        Step inverse() {
            if (isMarking()) {
                return new Step(ranges, from, to, mark, !isSet);
            }
            List<Range> back = new ArrayList<>();
            int shift = 0;
            for (Range range : ranges) {
                back.add(new Range(range.start + shift, range.put, range.taken));
                shift += range.put.size() - range.taken.size();
            }
            return new Step(back, 0, 0, 0, false);
        }

        List<Integer> on(List<Integer> document) {
            List<Integer> result = new ArrayList<>(document);
            if (isMarking()) {
                for (int i = from; i < to; i++) {
                    result.set(i, marked(result.get(i), mark, isSet));
                }
            }
            for (int r = ranges.size() - 1; r >= 0; r--) {
                Range range = ranges.get(r);
                List<Integer> part = result.subList(range.start, range.end());
                if (!part.equals(range.taken)) {
                    throw new AssertionError("a step takes what is not there");
                }
                part.clear();
                part.addAll(range.put);
            }
            return result;
        }
    }

    /** A map of the row: that of a step, and the index of its partner or -1. */
    static final class Map {
        final Step step;
        int partner = -1;

        Map(Step step) {
            this.step = step;
        }
    }

    record Mapped(int position, boolean isLost) {
    }

    static final class Client {
        int version;
        int lost;
        List<Step> pending = new ArrayList<>();
        List<Integer> copied = List.of();
    }

    private static final class Refusal extends RuntimeException {
        private static final long serialVersionUID = 1L;

        Refusal(String name) {
            super(name);
        }
    }

    private static final List<Integer> FIRST = List.of(1, 0);

    private final int[][] kinds = {{54, 0, 0}, {64, 0, 0}, {8, 0, 0}, {2, 6, 0}, {6, 0, 0}, {2, 22, 0}};
    private final int[][] quantities = {{3, 0, 0}, {2, 0, 0}, {3, 0, 0}, {0, 2, 0}, {3, 0, 0}, {0, 2, 0}};
    private final List<Step> log = new ArrayList<>();
    private final Client[] clients = {new Client(), new Client(), new Client()};
    private final List<int[]> comments = new ArrayList<>();

    /** Answers a call as Script does. */
    String answer(String call) {
        String[] words = call.split(" +");
        int[] n = new int[6];
        for (int i = 1; i < words.length; i++) {
            n[i] = words[i].equals("true") ? 1 : words[i].equals("false") ? 0 : Integer.parseInt(words[i]);
        }
        try {
            return answer(words[0], n);
        } catch (Refusal refusal) {
            return refusal.getMessage();
        }
    }

    private String answer(String name, int[] n) {
        switch (name) {
            case "rule": rule(n[1], n[2], n[3], n[4]); return "-";
            case "type": return "" + type(n[1], n[2], n[3]);
            case "erase": return "" + erase(n[1], n[2], n[3]);
            case "split": return "" + split(n[1], n[2]);
            case "join": return "" + join(n[1], n[2]);
            case "wrap": return "" + wrap(n[1], n[2], n[3], n[4]);
            case "unwrap": return "" + unwrap(n[1], n[2]);
            case "setType": return "" + setType(n[1], n[2], n[3]);
            case "mark": return "" + mark(n[1], n[2], n[3], n[4], n[5] == 1);
            case "copy": return "" + copy(n[1], n[2], n[3]);
            case "paste": return "" + paste(n[1], n[2]);
            case "takeBack": return "" + takeBack(n[1]);
            case "revert": return "" + revert(n[1], n[2]);
            case "send": return "" + send(n[1]);
            case "receive": return "" + receive(n[1]);
            case "lost": return "" + client(n[1]).lost;
            case "version": return "" + (100 * client(n[1]).version + client(n[1]).pending.size());
            case "isBuilt": return "true";
            case "size": return "" + document(n[1]).size();
            case "token": return "" + token(n[1], n[2]);
            case "around": return "" + around(n[1], n[2]);
            case "comment": return "" + comment(n[1], n[2]);
            case "commentAt": return "" + commentAt(n[1]);
            case "doc": return document(n[1]).toString().replaceAll("[\\[\\],]", "");
            default: throw new AssertionError(name);
        }
    }

    private static void need(boolean holds, String refusal) {
        if (!holds) {
            throw new Refusal(refusal);
        }
    }

    private static int marked(int token, int mark, boolean isSet) {
        if (token < 100) {
            return token;
        }
        int value = mark == 0 ? 1 : 2;
        boolean isOn = (token - 100) % 4 / value % 2 == 1;
        if (isOn == isSet) {
            return token;
        }
        return isSet ? token + value : token - value;
    }

    // ---- validity

    private boolean isValid(List<Integer> document) {
        if (document.size() > 60) {
            return false;
        }
        List<Integer> types = new ArrayList<>(List.of(0));
        List<StringBuilder> contents = new ArrayList<>(List.of(new StringBuilder()));
        for (int token : document) {
            int last = types.size() - 1;
            if (token == 0) {
                if (last == 0 || !fits(types.remove(last), contents.remove(last))) {
                    return false;
                }
            } else {
                contents.get(last).append(Math.min(token, 6));
                if (token <= 5) {
                    types.add(token);
                    contents.add(new StringBuilder());
                }
            }
        }
        return types.size() == 1 && fits(0, contents.get(0));
    }

    private boolean fits(int type, CharSequence content) {
        StringBuilder pattern = new StringBuilder();
        for (int e = 0; e < 3; e++) {
            if (kinds[type][e] != 0) {
                pattern.append('[');
                for (int k = 1; k <= 6; k++) {
                    pattern.append((kinds[type][e] & 1 << k) != 0 ? "" + k : "");
                }
                pattern.append(']').append(List.of("", "?", "*", "+").get(quantities[type][e]));
            }
        }
        return Pattern.matches(pattern.toString(), content);
    }

    // ---- documents

    private Client client(int number) {
        need(number >= 0 && number <= 2, "index");
        return clients[number];
    }

    private List<Integer> documentOf(Client client) {
        List<Integer> document = confirmed(client.version);
        for (Step step : client.pending) {
            document = step.on(document);
        }
        return document;
    }

    private List<Integer> confirmed(int version) {
        List<Integer> document = FIRST;
        for (Step step : log.subList(0, version)) {
            document = step.on(document);
        }
        return document;
    }

    private List<Integer> document(int whose) {
        return whose == 3 ? confirmed(log.size()) : documentOf(client(whose));
    }

    private static void needPosition(List<Integer> document, int position) {
        need(position >= 0 && position <= document.size(), "index");
    }

    private int token(int whose, int position) {
        List<Integer> document = document(whose);
        need(position >= 0 && position < document.size(), "index");
        return document.get(position);
    }

    private int around(int whose, int position) {
        List<Integer> document = document(whose);
        needPosition(document, position);
        List<Integer> open = open(document.subList(0, position));
        return 10 * open.size() + (open.isEmpty() ? 0 : open.get(open.size() - 1));
    }

    private static List<Integer> open(List<Integer> tokens) {
        List<Integer> open = new ArrayList<>();
        for (int token : tokens) {
            if (token == 0) {
                open.remove(open.size() - 1);
            } else if (token <= 5) {
                open.add(token);
            }
        }
        return open;
    }

    // ---- rules

    private void rule(int type, int element, int newKinds, int quantity) {
        need(type >= 0 && type <= 5, "index");
        need(element >= 0 && element <= 2, "argument");
        need(newKinds % 2 == 0 && newKinds >= 0 && newKinds <= 126, "argument");
        need(quantity >= 0 && quantity <= 3, "argument");
        need(log.isEmpty(), "state");
        for (Client client : clients) {
            need(client.pending.isEmpty(), "state");
        }
        int formerKinds = kinds[type][element];
        int formerQuantity = quantities[type][element];
        kinds[type][element] = newKinds;
        quantities[type][element] = quantity;
        if (!isValid(FIRST)) {
            kinds[type][element] = formerKinds;
            quantities[type][element] = formerQuantity;
            throw new Refusal("state");
        }
    }

    // ---- edits

    private int edit(Client client, Step step) {
        need(client.pending.size() < 10, "state");
        List<Integer> after = step.on(documentOf(client));
        need(isValid(after), "state");
        client.pending.add(step);
        return after.size();
    }

    private int type(int number, int position, int letter) {
        Client client = client(number);
        needPosition(documentOf(client), position);
        need(letter >= 0 && letter <= 25, "index");
        return edit(client, Step.change(new Range(position, List.of(), List.of(100 + 4 * letter))));
    }

    private int erase(int number, int from, int to) {
        Client client = client(number);
        List<Integer> document = documentOf(client);
        needPosition(document, from);
        needPosition(document, to);
        need(to > from, "argument");
        return edit(client, Step.change(new Range(from, document.subList(from, to), List.of())));
    }

    private int split(int number, int position) {
        Client client = client(number);
        int type = around(number, position) % 10;
        need(type != 0, "state");
        edit(client, Step.change(new Range(position, List.of(), List.of(0, type))));
        return type;
    }

    private int join(int number, int position) {
        Client client = client(number);
        List<Integer> document = documentOf(client);
        needPosition(document, position);
        need(position > 0 && position < document.size(), "state");
        int type = document.get(position);
        need(document.get(position - 1) == 0 && type >= 1 && type <= 5, "state");
        edit(client, Step.change(new Range(position - 1, List.of(0, type), List.of())));
        return type;
    }

    private int wrap(int number, int from, int to, int type) {
        Client client = client(number);
        List<Integer> document = documentOf(client);
        needPosition(document, from);
        needPosition(document, to);
        need(type >= 1 && type <= 5, "index");
        need(to > from, "argument");
        return edit(client, Step.change(
            new Range(from, List.of(), List.of(type)), new Range(to, List.of(), List.of(0))));
    }

    private int openedAt(List<Integer> document, int position) {
        needPosition(document, position);
        need(position < document.size(), "state");
        int type = document.get(position);
        need(type >= 1 && type <= 5, "state");
        return type;
    }

    private int unwrap(int number, int position) {
        Client client = client(number);
        List<Integer> document = documentOf(client);
        int type = openedAt(document, position);
        int end = position + 1;
        while (!open(document.subList(position, end)).isEmpty()) {
            end++;
        }
        edit(client, Step.change(
            new Range(position, List.of(type), List.of()), new Range(end - 1, List.of(0), List.of())));
        return type;
    }

    private int setType(int number, int position, int type) {
        Client client = client(number);
        List<Integer> document = documentOf(client);
        needPosition(document, position);
        need(type >= 1 && type <= 5, "index");
        int former = openedAt(document, position);
        need(former != type, "state");
        edit(client, Step.change(new Range(position, List.of(former), List.of(type))));
        return former;
    }

    private int mark(int number, int from, int to, int mark, boolean isSet) {
        Client client = client(number);
        List<Integer> document = documentOf(client);
        needPosition(document, from);
        needPosition(document, to);
        need(mark == 0 || mark == 1, "index");
        need(to > from, "argument");
        Step step = new Step(List.of(), from, to, mark, isSet);
        need(!step.on(document).equals(document), "state");
        edit(client, step);
        return (int) document.subList(from, to).stream().filter(t -> t >= 100).count();
    }

    private int copy(int number, int from, int to) {
        Client client = client(number);
        List<Integer> document = documentOf(client);
        needPosition(document, from);
        needPosition(document, to);
        need(to > from, "argument");
        List<Integer> outer = open(document.subList(0, from));
        List<Integer> ahead = new ArrayList<>();
        int opened = 0;
        for (int token : document.subList(from, to)) {
            if (token == 0 && opened == 0) {
                ahead.add(0, outer.remove(outer.size() - 1));
            } else if (token == 0) {
                opened--;
            } else if (token <= 5) {
                opened++;
            }
        }
        List<Integer> slice = new ArrayList<>(ahead);
        slice.addAll(document.subList(from, to));
        for (int i = 0; i < opened; i++) {
            slice.add(0);
        }
        client.copied = slice;
        return slice.size();
    }

    private static boolean isOneNode(List<Integer> tokens) {
        if (tokens.isEmpty() || tokens.get(0) < 1 || tokens.get(0) > 5) {
            return false;
        }
        for (int end = 1; end < tokens.size(); end++) {
            if (open(tokens.subList(0, end)).isEmpty()) {
                return false;
            }
        }
        return true;
    }

    private int paste(int number, int position) {
        Client client = client(number);
        List<Integer> document = documentOf(client);
        needPosition(document, position);
        List<List<Integer>> tries = new ArrayList<>();
        List<Integer> last = client.copied;
        tries.add(last);
        while (isOneNode(last)) {
            last = last.subList(1, last.size() - 1);
            tries.add(last);
        }
        for (int type = 1; type <= 5; type++) {
            List<Integer> wrapped = new ArrayList<>(client.copied);
            wrapped.add(0, type);
            wrapped.add(0);
            tries.add(wrapped);
        }
        need(!client.copied.isEmpty(), "state");
        for (List<Integer> slice : tries) {
            Step step = Step.change(new Range(position, List.of(), slice));
            if (!slice.isEmpty() && isValid(step.on(document))) {
                edit(client, step);
                return slice.size();
            }
        }
        throw new Refusal("state");
    }

    private int takeBack(int number) {
        Client client = client(number);
        need(!client.pending.isEmpty(), "state");
        client.pending.remove(client.pending.size() - 1);
        return client.pending.size();
    }

    private int revert(int number, int index) {
        Client client = client(number);
        need(index >= 0 && index < client.version, "index");
        List<Map> row = new ArrayList<>();
        for (Step step : log.subList(index + 1, client.version)) {
            row.add(new Map(step));
        }
        for (Step step : client.pending) {
            row.add(new Map(step));
        }
        Step step = mapped(log.get(index).inverse(), row, 0, documentOf(client));
        need(step != null, "state");
        return edit(client, step);
    }

    // ---- mapping

    /** The range of a step in which a position comes, -1 if in none. */
    private static int rangeAt(Step step, int position) {
        for (int r = 0; r < step.ranges.size(); r++) {
            if (position >= step.ranges.get(r).start && position <= step.ranges.get(r).end()) {
                return r;
            }
        }
        return -1;
    }

    private static Mapped through(Step step, int position, boolean isRight) {
        int at = rangeAt(step, position);
        if (at < 0) {
            int moved = position;
            for (Range range : step.ranges) {
                moved += range.end() < position ? range.put.size() - range.taken.size() : 0;
            }
            return new Mapped(moved, false);
        }
        Range range = step.ranges.get(at);
        int beginning = step.inverse().ranges.get(at).start;
        int ending = beginning + range.put.size();
        if (!range.taken.isEmpty() && position == range.start) {
            return new Mapped(beginning, false);
        }
        if (!range.taken.isEmpty() && position == range.end()) {
            return new Mapped(ending, false);
        }
        return new Mapped(isRight ? ending : beginning, !range.taken.isEmpty());
    }

    private static Mapped through(List<Map> row, int first, int position, boolean isRight) {
        boolean isLost = false;
        int at = position;
        int i = first;
        while (i < row.size()) {
            Map map = row.get(i);
            int r = rangeAt(map.step, at);
            if (map.partner >= 0 && r >= 0) {
                Range range = map.step.ranges.get(r);
                boolean isPassed = isRight ? at == range.end() : at == range.start;
                if (!isPassed) {
                    at = row.get(map.partner).step.inverse().ranges.get(r).start + at - range.start;
                    i = map.partner + 1;
                    continue;
                }
            }
            Mapped mapped = through(map.step, at, isRight);
            isLost |= mapped.isLost;
            at = mapped.position;
            i++;
        }
        return new Mapped(at, isLost);
    }

    /** The mapped step for a document, null if it is dropped. */
    private static Step mapped(Step step, List<Map> row, int first, List<Integer> document) {
        if (step.isMarking()) {
            int from = through(row, first, step.from, true).position;
            int to = through(row, first, step.to, false).position;
            return to > from ? new Step(List.of(), from, to, step.mark, step.isSet) : null;
        }
        List<Range> ranges = new ArrayList<>();
        for (Range range : step.ranges) {
            Mapped start = through(row, first, range.start, true);
            Mapped end = through(row, first, range.end(), false);
            if (start.isLost && end.isLost) {
                return null;
            }
            int to = Math.max(start.position, end.position);
            ranges.add(new Range(start.position, document.subList(start.position, to), range.put));
        }
        if (ranges.size() == 2 && ranges.get(1).start < ranges.get(0).end()) {
            return null;
        }
        return new Step(ranges, 0, 0, 0, false);
    }

    // ---- the authority

    private int send(int number) {
        Client client = client(number);
        need(client.version == log.size(), "state");
        need(log.size() + client.pending.size() <= 60, "state");
        int sent = client.pending.size();
        for (Step step : client.pending) {
            log.add(step);
            for (int[] comment : comments) {
                if (comment[0] >= 0) {
                    int from = through(step, comment[0], true).position;
                    int to = through(step, comment[1], false).position;
                    comment[0] = to > from ? from : -1;
                    comment[1] = to;
                }
            }
        }
        client.pending.clear();
        client.version = log.size();
        return sent;
    }

    private int receive(int number) {
        Client client = client(number);
        List<Step> former = client.pending;
        int n = former.size();
        List<Map> row = new ArrayList<>();
        for (int i = n - 1; i >= 0; i--) {
            row.add(new Map(former.get(i).inverse()));
        }
        int received = log.size() - client.version;
        for (Step step : log.subList(client.version, log.size())) {
            row.add(new Map(step));
        }
        client.version = log.size();
        client.pending = new ArrayList<>();
        for (int i = 0; i < n; i++) {
            List<Integer> document = documentOf(client);
            Step step = mapped(former.get(i), row, n - i, document);
            if (step != null && isValid(step.on(document))) {
                client.pending.add(step);
                row.get(n - 1 - i).partner = row.size();
                row.add(new Map(step));
            } else {
                client.lost++;
            }
        }
        return received;
    }

    // ---- comments

    private int comment(int from, int to) {
        List<Integer> document = document(3);
        needPosition(document, from);
        needPosition(document, to);
        need(to > from, "argument");
        need(comments.size() < 10, "state");
        comments.add(new int[] {from, to});
        return comments.size() - 1;
    }

    private int commentAt(int number) {
        need(number >= 0 && number < comments.size(), "index");
        int[] comment = comments.get(number);
        return comment[0] < 0 ? -1 : 100 * comment[0] + comment[1];
    }

    /** All that a look at the object tells, as calls. */
    static List<String> looks() {
        List<String> calls = new ArrayList<>(Arrays.asList("doc 0", "doc 1", "doc 2", "doc 3", "isBuilt"));
        for (int i = 0; i < 3; i++) {
            calls.add("version " + i);
            calls.add("lost " + i);
        }
        for (int i = 0; i <= 10; i++) {
            calls.add("commentAt " + i);
        }
        return calls;
    }
}
