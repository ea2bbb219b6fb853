/**
 * The sentences of "Terms" about rules: which contents fit by a rule, and the rules that are there
 * at first. A content is a row of kinds, and it is laid out in the document, which holds anything,
 * and then put into a node.
 */
public final class ContentsTest {
    private static final int LIST = 2;
    private static final int ITEM = 3;
    private static final int QUOTE = 4;
    private static final int LAST_TYPE = 5;
    private static final int CHARACTER = 6;

    private ContentsTest() {
    }

    public static void main(String[] args) {
        kinds();
        quantities();
        pieces();
        order();
        withoutElements();
        ruleOfTheDocument();
        rulesOfNodes();
        Script.end();
    }

    /** A rule of quotes alone, all other nodes hold whatever there is. */
    private static String ruleOfQuotes(int... kindsAndQuantities) {
        StringBuilder lines = new StringBuilder(SetUp.LOOSE_RULES);
        for (int e = 0; e < 3; e++) {
            int at = 2 * e;
            boolean isThere = at + 1 < kindsAndQuantities.length;
            lines.append("rule 4 ").append(e).append(' ').append(isThere ? kindsAndQuantities[at] : 0)
                .append(' ').append(isThere ? kindsAndQuantities[at + 1] : 0).append('\n');
        }
        return lines.toString();
    }

    /** The rules as they are at first, but for those of the document and of other types than one. */
    private static String justTheFirstRuleOf(int type) {
        StringBuilder lines = new StringBuilder();
        for (String line : SetUp.LOOSE_RULES.split("\n")) {
            lines.append(line.startsWith("rule " + type) ? "" : line + "\n");
        }
        return lines.toString();
    }

    /** Puts a content into a node of a type, which is possible just if it fits. */
    private static void check(String name, String rules, int type, String content, boolean isFitting) {
        StringBuilder script = new StringBuilder(rules).append("copy 0 0 2\n");
        int end = 2;
        for (char kind : content.toCharArray()) {
            end = layOut(script, kind - '0', type, end);
        }
        String due;
        if (content.isEmpty()) {
            script.append("paste 0 2\n").append(type == 1 ? "setType 0 2 2\n" : "");
            script.append("setType 0 2 ").append(type);
            due = type == 1 ? "2" : "1";
        } else {
            script.append("wrap 0 2 ").append(end).append(' ').append(type);
            due = "" + (end + 2);
        }
        Script.run(name + ": " + content + " in " + type, script + " -> " + (isFitting ? due : "state") + "\n");
    }

    /** Lays a thing of a kind out at the end of the document; a node that fits in spite of a rule. */
    private static int layOut(StringBuilder script, int kind, int ruled, int end) {
        if (kind == CHARACTER) {
            script.append("type 0 ").append(end).append(" 0\nsend 0\n");
            return end + 1;
        }
        script.append("paste 0 ").append(end).append("\n");
        if (kind != ruled) {
            script.append(kind == 1 ? "" : "setType 0 " + end + " " + kind + "\n").append("send 0\n");
            return end + 2;
        }
        int size = 2;
        if (kind == LIST) {
            script.append("wrap 0 ").append(end).append(' ').append(end + size).append(" 3\n");
            size += 2;
        }
        if (kind != 1) {
            script.append("wrap 0 ").append(end).append(' ').append(end + size).append(' ').append(kind)
                .append('\n');
            size += 2;
        }
        script.append("send 0\n");
        return end + size;
    }

    private static void kinds() {
        for (int allowed = 1; allowed <= CHARACTER; allowed++) {
            for (int kind = 1; kind <= CHARACTER; kind++) {
                String content = kind == QUOTE ? "" : "" + kind;
                if (kind != QUOTE) {
                    check("bit k for the kind k, 6 for a character", ruleOfQuotes(1 << allowed, 0), QUOTE,
                        content, kind == allowed);
                    check("a set of kinds", ruleOfQuotes(126 - (1 << allowed), 0), QUOTE, content,
                        kind != allowed);
                }
            }
        }
        Script.run("bit k for the kind k: a quote in a quote", ruleOfQuotes(16, 1) + """
            setType 0 0 4
            wrap 0 0 2 4 -> 4
            """);
        Script.run("bit k for the kind k: no quote in a quote", ruleOfQuotes(110, 1) + """
            setType 0 0 4
            wrap 0 0 2 4 -> state
            """);
    }

    private static void quantities() {
        String[] contents = {"", "6", "66", "666666"};
        String[] names = {"0 just one", "1 at most one", "2 any number", "3 at least one"};
        boolean[][] areFitting = {
            {false, true, false, false}, {true, true, false, false}, {true, true, true, true},
            {false, true, true, true}
        };
        for (int quantity = 0; quantity < names.length; quantity++) {
            for (int i = 0; i < contents.length; i++) {
                check("a quantity: " + names[quantity], ruleOfQuotes(64, quantity), QUOTE, contents[i],
                    areFitting[quantity][i]);
            }
        }
    }

    private static void pieces() {
        String cut = "The content fits if it can be cut into pieces";
        String anyThenOne = ruleOfQuotes(64, 2, 64, 0);
        check(cut, anyThenOne, QUOTE, "", false);
        check(cut, anyThenOne, QUOTE, "6", true);
        check(cut, anyThenOne, QUOTE, "66666", true);
        String someThenOne = ruleOfQuotes(64, 3, 64, 0);
        check(cut, someThenOne, QUOTE, "6", false);
        check(cut, someThenOne, QUOTE, "66", true);
        String someThenSome = ruleOfQuotes(66, 3, 64, 3, 66, 3);
        check(cut, someThenSome, QUOTE, "66", false);
        check(cut, someThenSome, QUOTE, "666", true);
        check(cut, someThenSome, QUOTE, "1661", true);
        check(cut, someThenSome, QUOTE, "1111", false);
        check(cut, someThenSome, QUOTE, "1611", true);
        check(cut, someThenSome, QUOTE, "6116", false);
        String three = "up to three elements";
        String atMostThree = ruleOfQuotes(64, 1, 64, 1, 64, 1);
        check(three, atMostThree, QUOTE, "", true);
        check(three, atMostThree, QUOTE, "666", true);
        check(three, atMostThree, QUOTE, "6666", false);
        String justThree = ruleOfQuotes(64, 0, 64, 0, 64, 0);
        check(three, justThree, QUOTE, "66", false);
        check(three, justThree, QUOTE, "666", true);
        check(three, justThree, QUOTE, "6666", false);
        String oneAndAny = ruleOfQuotes(2, 1, 64, 0, 66, 2);
        check(three, oneAndAny, QUOTE, "6", true);
        check(three, oneAndAny, QUOTE, "16", true);
        check(three, oneAndAny, QUOTE, "1", false);
        check(three, oneAndAny, QUOTE, "116", false);
        check(three, oneAndAny, QUOTE, "616161", true);
    }

    private static void order() {
        String name = "one for each element in order";
        String characterThenNode = ruleOfQuotes(64, 0, 2, 0);
        check(name, characterThenNode, QUOTE, "61", true);
        check(name, characterThenNode, QUOTE, "16", false);
        check(name, characterThenNode, QUOTE, "611", false);
        check(name, characterThenNode, QUOTE, "6", false);
        String hole = ruleOfQuotes(64, 0, 0, 0, 2, 0);
        check("kinds 0, so that the element is not there: amid", hole, QUOTE, "61", true);
        check("kinds 0, so that the element is not there: amid", hole, QUOTE, "6", false);
        check("kinds 0, so that the element is not there: amid", hole, QUOTE, "661", false);
        String second = ruleOfQuotes(0, 3, 0, 0, 64, 0);
        check("kinds 0, so that the element is not there: at first", second, QUOTE, "6", true);
        check("kinds 0, so that the element is not there: at first", second, QUOTE, "", false);
        String last = ruleOfQuotes(64, 0, 2, 2, 0, 3);
        check("kinds 0, so that the element is not there: at last", last, QUOTE, "611", true);
    }

    private static void withoutElements() {
        String name = "without elements a node has to be empty";
        for (int quantity = 0; quantity <= 3; quantity++) {
            String none = ruleOfQuotes(0, quantity, 0, quantity, 0, quantity);
            check(name, none, QUOTE, "", true);
            check(name, none, QUOTE, "6", false);
            check(name, none, QUOTE, "1", false);
        }
        Script.run("without elements a node has to be empty: a paragraph", """
            rule 1 0 0 0
            type 0 1 0 -> state
            split 0 1 -> 1
            """);
    }

    private static void ruleOfTheDocument() {
        String name = "At first the rules are: of 0 the element {1, 2, 4, 5} at least one";
        Script.run(name + ": at least one", """
            erase 0 0 2 -> state
            copy 0 0 2
            8 x paste 0 0
            erase 0 2 18 -> 2
            erase 0 0 2 -> state
            """);
        for (int type = 2; type <= LAST_TYPE; type++) {
            Script.run(name + ": " + type, "rule 2 0 126 2\nrule 3 0 126 2\nwrap 0 0 2 " + type + " -> "
                + (type == ITEM ? "state" : "4") + "\n");
        }
        Script.run(name + ": no character", "type 0 0 0 -> state\ntype 0 2 0 -> state\n");
        Script.run(name + ": one of each", """
            rule 2 0 126 2
            5 x split 0 1
            setType 0 2 2
            wrap 0 4 6 4
            wrap 0 8 10 5
            doc 0 -> 1 0 2 0 4 1 0 0 5 1 0 0 1 0 1 0
            erase 0 0 4
            send 0
            erase 0 0 4
            erase 0 4 8
            doc 0 -> 5 1 0 0
            """);
    }

    private static void rulesOfNodes() {
        String name = "At first the rules are";
        String[] fitting = {
            "1:", "1:6", "1:66666666", "2:3", "2:33", "2:333", "3:1", "3:11", "3:12", "3:1212", "4:1",
            "4:2", "4:12", "4:2211", "5:1", "5:11", "5:12", "5:14", "5:1421"
        };
        String[] refused = {
            "1:1", "1:2", "1:3", "1:4", "1:5", "1:61", "2:", "2:1", "2:2", "2:4", "2:5", "2:6", "2:31",
            "2:13", "3:", "3:2", "3:21", "3:3", "3:4", "3:5", "3:6", "3:13", "3:14", "3:15", "3:16", "4:",
            "4:3", "4:4", "4:5", "4:6", "4:13", "4:14", "4:15", "4:16", "5:", "5:2", "5:3", "5:4", "5:5",
            "5:6", "5:21", "5:41", "5:13", "5:15", "5:16"
        };
        for (String told : fitting) {
            int type = told.charAt(0) - '0';
            check(name, justTheFirstRuleOf(type), type, told.substring(2), true);
        }
        for (String told : refused) {
            int type = told.charAt(0) - '0';
            check(name, justTheFirstRuleOf(type), type, told.substring(2), false);
        }
    }
}
