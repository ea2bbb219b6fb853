/**
 * The sentences of the promises that name a boundary case: each range of an argument, what is
 * answered at its ends, and each reason for an exception, with a script of its own.
 */
public final class EdgesTest {
    private static final int[] NO_CLIENTS = {Integer.MIN_VALUE, -1, 3, 4, Integer.MAX_VALUE};
    private static final int[] NO_DOCUMENTS = {Integer.MIN_VALUE, -1, 4, 5, Integer.MAX_VALUE};
    private static final int[] FAR = {Integer.MIN_VALUE, -100, 100, Integer.MAX_VALUE};

    private EdgesTest() {
    }

    public static void main(String[] args) {
        clients();
        rangesOfRule();
        statesOfRule();
        type();
        erase();
        split();
        join();
        wrap();
        unwrap();
        setType();
        mark();
        marksThatChangeNothing();
        copy();
        paste();
        takeBack();
        whatTakingBackLeaves();
        revert();
        send();
        receive();
        lost();
        version();
        isBuilt();
        documents();
        comment();
        commentAt();
        Script.end();
    }

    /** A call with each of some numbers in place of N. */
    private static void each(String name, String begin, String call, int[] numbers, String due) {
        for (int number : numbers) {
            Script.run(name, begin + call.replace("N", "" + number) + " -> " + due + "\n");
        }
    }

    private static void clients() {
        String[] calls = {
            "type N 1 0", "type N 9 26", "erase N 1 2", "erase N 2 1", "split N 1", "join N 3",
            "wrap N 0 3 4", "wrap N 3 0 6", "unwrap N 0", "setType N 0 4", "mark N 1 2 0 true",
            "mark N 2 1 2 true", "copy N 1 2", "copy N 2 1", "paste N 1", "takeBack N", "revert N 0",
            "send N", "receive N", "lost N", "version N"
        };
        for (String call : calls) {
            each("IndexOutOfBoundsException if there is no such client: " + call,
                "type 0 1 0\nsend 0\ntype 0 1 0\n", call, NO_CLIENTS, "index");
        }
        for (String call : new String[] {"size N", "token N 0", "token N 9", "around N 0", "around N 9"}) {
            each("0 to 2 for a client, 3 for the authority: " + call, "", call, NO_DOCUMENTS, "index");
        }
        Script.run("client: 0 to 2", """
            type 0 1 0 -> 3
            type 1 1 1 -> 3
            type 2 1 2 -> 3
            version 0 -> 1
            version 2 -> 1
            doc 0 -> 1 100 0
            doc 1 -> 1 104 0
            doc 2 -> 1 108 0
            doc 3 -> 1 0
            """);
    }

    private static void rangesOfRule() {
        each("2 rule: type: 0 to 5", "", "rule N 0 126 3", new int[] {0, 2, 3, 4, 5}, "-");
        each("2 rule: type: 0 to 5", "", "rule N 0 126 2", new int[] {1}, "-");
        each("2 rule: there is no such type", "", "rule N 0 126 2", new int[] {-1, 6, 7}, "index");
        each("2 rule: there is no such type", "", "rule N 0 126 2", FAR, "index");
        each("2 rule: element: 0 to 2", "", "rule 4 N 126 2", new int[] {0, 1, 2}, "-");
        each("2 rule: element out of range", "", "rule 4 N 126 2", new int[] {-1, 3, 4}, "argument");
        each("2 rule: element out of range", "", "rule 4 N 126 2", FAR, "argument");
        each("2 rule: element out of range", "", "rule 4 N 0 0", FAR, "argument");
        each("2 rule: quantity: 0 to 3", "", "rule 4 0 126 N", new int[] {0, 1, 2, 3}, "-");
        each("2 rule: quantity: 0 to 3, also of none", "", "rule 4 0 0 N", new int[] {0, 1, 2, 3}, "-");
        each("2 rule: quantity out of range", "", "rule 4 0 126 N", new int[] {-1, 4, 5}, "argument");
        each("2 rule: quantity out of range", "", "rule 4 0 0 N", new int[] {-1, 4}, "argument");
        each("2 rule: quantity out of range", "", "rule 4 0 126 N", FAR, "argument");
        StringBuilder even = new StringBuilder();
        for (int kinds = 0; kinds <= 126; kinds += 2) {
            even.append("rule 4 1 ").append(kinds).append(" 2 -> -\n");
        }
        Script.run("2 rule: an even number from 2 to 126; or 0", even.toString());
        StringBuilder odd = new StringBuilder();
        for (int kinds = -63; kinds <= 191; kinds += 2) {
            odd.append("rule 4 1 ").append(kinds).append(" 2 -> argument\n");
        }
        Script.run("2 rule: kinds out of range: odd", odd.toString());
        each("2 rule: kinds out of range", "", "rule 4 0 N 2",
            new int[] {Integer.MIN_VALUE, -126, -2, -1, 127, 128, 130, 254, 256, Integer.MAX_VALUE},
            "argument");
    }

    private static void statesOfRule() {
        for (int client = 0; client <= 2; client++) {
            Script.run("2 rule: some step is pending: of " + client, """
                type N 1 0
                rule 4 0 6 2 -> state
                rule 4 0 6 4 -> argument
                takeBack N
                rule 4 0 6 2 -> -
                type N 1 0
                send N
                rule 4 0 6 2 -> state
                """.replace("N", "" + client));
        }
        Script.run("2 rule: or was confirmed: also if all have received it", """
            type 0 1 0
            erase 0 1 2
            send 0
            receive 1
            receive 2
            rule 4 0 6 2 -> state
            rule 4 0 6 3 -> state          # as it is
            """);
        Script.run("2 rule: copying, comments, sending nothing and receiving nothing are no steps", """
            copy 0 0 2
            comment 0 2
            send 0 -> 0
            receive 1 -> 0
            type 0 0 0 -> state
            rule 4 0 6 2 -> -
            """);
        Script.run("2 rule: the first document would not be valid: without a paragraph", """
            rule 0 0 0 0 -> state
            rule 0 0 124 3 -> state
            rule 0 0 52 2 -> state
            rule 0 0 2 3 -> -
            rule 0 1 2 3 -> state          # two paragraphs
            rule 0 1 64 0 -> state
            rule 0 1 64 3 -> state
            rule 0 1 64 1 -> -
            rule 0 2 64 2 -> -
            """);
        Script.run("2 rule: the first document would not be valid: the paragraph is empty", """
            rule 1 0 64 0 -> state
            rule 1 0 64 3 -> state
            rule 1 1 64 0 -> state
            rule 1 2 2 3 -> state
            rule 1 2 2 1 -> -
            rule 1 0 0 0 -> -
            rule 1 2 0 3 -> -
            type 0 1 0 -> state
            """);
        Script.run("2 rule: it would be valid whatever the other rules are", """
            rule 2 0 0 0 -> -
            rule 3 0 64 0 -> -
            rule 4 2 8 0 -> -
            rule 5 0 126 3 -> -
            """);
        Script.run("2 rule: a refused one leaves the former one: of the document", """
            rule 0 0 124 3 -> state
            split 0 1 -> 1
            wrap 0 0 2 5 -> 6
            """);
        Script.run("2 rule: a refused one leaves the former one: of paragraphs", """
            rule 1 0 2 0 -> state
            type 0 1 0 -> 3
            type 0 1 0 -> 4
            """);
        for (int element = 1; element <= 2; element++) {
            Script.run("2 rule: a refused one leaves the former one: the element " + element, """
                rule 0 N 64 2 -> -
                rule 0 N 2 0 -> state
                rule 1 0 0 0 -> -
                rule 1 N 64 2 -> -
                rule 1 N 2 3 -> state
                type 0 2 0 -> 3
                type 0 2 0 -> 4
                type 0 1 0 -> 5
                type 0 1 0 -> 6
                """.replace("N", "" + element));
        }
        Script.run("2 rule: the last one counts", """
            rule 4 0 64 0 -> -
            rule 4 0 6 2 -> -
            rule 4 0 2 0 -> -
            split 0 1
            wrap 0 0 4 4 -> state
            wrap 0 0 2 4 -> 6
            """);
    }

    private static void type() {
        String begin = "type 0 1 3\ntype 0 1 2\n";
        Script.run("3 type: a position of its document: both ends", begin + """
            type 0 0 0 -> state
            type 0 1 0 -> 5
            type 0 4 1 -> 6
            type 0 6 0 -> state
            type 0 7 0 -> index
            doc 0 -> 1 100 108 112 104 0
            """);
        Script.run("3 type: at both ends of the document", "rule 0 0 126 2\n" + begin + """
            type 0 0 0 -> 5
            type 0 5 1 -> 6
            doc 0 -> 100 1 108 112 0 104
            """);
        Script.run("3 type: of its document, not of another one", begin + "type 1 3 0 -> index\n");
        each("3 type: no such position", begin, "type 0 N 0", FAR, "index");
        each("3 type: no such position", begin, "type 0 N 0", new int[] {-1, 5}, "index");
        each("3 type: letter: 0 to 25", begin, "type 0 1 N", new int[] {0, 1, 24, 25}, "5");
        each("3 type: no such letter", begin, "type 0 1 N", new int[] {-1, 26, 27}, "index");
        each("3 type: no such letter", begin, "type 0 1 N", FAR, "index");
        each("3 type: no such letter, where none fits", begin, "type 0 0 N", new int[] {-1, 26}, "index");
        Script.run("3 type: a character without marks", """
            type 0 1 25
            mark 0 1 2 0 true
            mark 0 1 2 1 true
            type 0 1 25
            type 0 3 25 -> 5
            doc 0 -> 1 200 203 200 0
            """);
    }

    private static void erase() {
        String begin = "type 0 1 1\ntype 0 1 0\n";
        Script.run("4 erase: one token", begin + """
            erase 0 2 3 -> 3
            erase 0 1 2 -> 2
            """);
        Script.run("4 erase: all tokens", "rule 0 0 2 2\n" + begin + """
            erase 0 0 4 -> 0
            size 0 -> 0
            around 0 0 -> 0
            erase 0 0 0 -> argument
            erase 0 0 1 -> index
            """);
        each("4 erase: from: no such position", begin, "erase 0 N 2", new int[] {-1, 5}, "index");
        each("4 erase: from: no such position", begin, "erase 0 N 2", FAR, "index");
        each("4 erase: to: no such position", begin, "erase 0 1 N", new int[] {-1, 5}, "index");
        each("4 erase: to: no such position", begin, "erase 0 1 N", FAR, "index");
        Script.run("4 erase: to is not later than from", begin + """
            erase 0 1 1 -> argument
            erase 0 2 1 -> argument
            erase 0 4 0 -> argument
            erase 0 0 0 -> argument
            erase 0 4 4 -> argument
            """);
        Script.run("4 erase: the document would not be valid", begin + """
            erase 0 0 1 -> state
            erase 0 3 4 -> state
            erase 0 0 4 -> state
            erase 0 1 4 -> state
            """);
        Script.run("4 erase: across two nodes", begin + """
            split 0 2
            erase 0 1 3 -> state
            erase 0 1 4 -> 3
            doc 0 -> 1 104 0
            """);
    }

    private static void split() {
        String begin = "type 0 1 1\ntype 0 1 0\n";
        Script.run("5 split: at the edges of a node", begin + """
            split 0 1 -> 1
            doc 0 -> 1 0 1 100 104 0
            split 0 5 -> 1
            doc 0 -> 1 0 1 100 104 0 1 0
            split 0 7 -> 1
            doc 0 -> 1 0 1 100 104 0 1 0 1 0
            """);
        Script.run("5 split: the position is in no node", begin + """
            split 0 0 -> state
            split 0 4 -> state
            split 0 2 -> 1
            split 0 3 -> state
            """);
        Script.run("5 split: in no node: a position that does not exist", begin + """
            split 0 -1 -> index
            split 0 5 -> index
            """);
        each("5 split: no such position", begin, "split 0 N", FAR, "index");
        Script.run("5 split: just the node around it, not those around that", begin + """
            wrap 0 0 4 5
            split 0 3 -> 1
            doc 0 -> 5 1 100 0 1 104 0 0
            split 0 4 -> 5
            doc 0 -> 5 1 100 0 0 5 1 104 0 0
            """);
        Script.run("5 split: the document would not be valid", begin + """
            wrap 0 0 4 4
            split 0 1 -> state             # a quote would be empty
            split 0 5 -> state
            split 0 3 -> 1
            """);
    }

    private static void join() {
        String begin = "type 0 1 1\ntype 0 1 0\nsplit 0 2\n";
        Script.run("6 join: the token ahead of a position, which closes, and that behind it, which opens",
            begin + """
            doc 0 -> 1 100 0 1 104 0
            join 0 3 -> 1
            doc 0 -> 1 100 104 0
            """);
        Script.run("6 join: the tokens are not so", begin + """
            join 0 1 -> state              # one that opens, and a character
            join 0 2 -> state              # a character, and one that closes
            join 0 4 -> state
            join 0 5 -> state
            split 0 1
            join 0 1 -> state              # one that opens, and one that closes
            """);
        Script.run("6 join: no token ahead, and none behind", begin + """
            join 0 0 -> state
            join 0 6 -> state
            """);
        Script.run("6 join: no such position", begin + """
            join 0 -1 -> index
            join 0 7 -> index
            """);
        each("6 join: no such position", begin, "join 0 N", FAR, "index");
        Script.run("6 join: two that close, two that open", begin + """
            wrap 0 0 3 4
            wrap 0 5 8 4
            doc 0 -> 4 1 100 0 0 4 1 104 0 0
            join 0 1 -> state
            join 0 4 -> state
            join 0 6 -> state
            join 0 9 -> state
            join 0 5 -> 4
            doc 0 -> 4 1 100 0 1 104 0 0
            join 0 4 -> 1
            """);
        Script.run("6 join: a character ahead of one that opens, or behind one that closes",
            "rule 0 0 126 2\n" + begin + """
            type 0 3 5
            join 0 3 -> state
            join 0 4 -> state
            """);
        Script.run("6 join: it returns the type of the second one", begin + """
            wrap 0 0 3 4
            wrap 0 5 8 5
            join 0 5 -> 5
            doc 0 -> 4 1 100 0 1 104 0 0
            """);
        Script.run("6 join: the document would not be valid", begin + """
            wrap 0 3 6 4
            join 0 3 -> state
            """);
    }

    private static void wrap() {
        String begin = "type 0 1 1\ntype 0 1 0\n";
        Script.run("7 wrap: all tokens, and one token", "rule 2 0 64 2\nrule 1 0 126 2\n" + begin + """
            wrap 0 0 4 4 -> 6
            wrap 0 2 3 2 -> 8
            doc 0 -> 4 1 2 100 0 104 0 0
            """);
        each("7 wrap: from: no such position", begin, "wrap 0 N 4 4", new int[] {-1, 5}, "index");
        each("7 wrap: from: no such position", begin, "wrap 0 N 4 4", FAR, "index");
        each("7 wrap: to: no such position", begin, "wrap 0 0 N 4", new int[] {-1, 5}, "index");
        each("7 wrap: to: no such position", begin, "wrap 0 0 N 4", FAR, "index");
        each("7 wrap: type: 1 to 5", SetUp.LOOSE_RULES + begin, "wrap 0 0 4 N",
            new int[] {1, 2, 3, 4, 5}, "6");
        each("7 wrap: no such type", SetUp.LOOSE_RULES + begin, "wrap 0 0 4 N", new int[] {-1, 0, 6},
            "index");
        each("7 wrap: no such type", SetUp.LOOSE_RULES + begin, "wrap 0 0 4 N", FAR, "index");
        each("7 wrap: no such type, and to is not later", begin, "wrap 0 4 0 N", new int[] {0, 6}, "index");
        Script.run("7 wrap: to is not later than from", SetUp.LOOSE_RULES + begin + """
            wrap 0 2 2 4 -> argument
            wrap 0 3 2 4 -> argument
            wrap 0 0 0 4 -> argument
            wrap 0 4 4 4 -> argument
            wrap 0 4 0 4 -> argument
            """);
        Script.run("7 wrap: the document would not be valid", begin + """
            wrap 0 0 4 1 -> state
            wrap 0 0 4 2 -> state
            wrap 0 0 4 3 -> state
            wrap 0 1 3 4 -> state
            wrap 0 0 1 2 -> state
            """);
    }

    private static void unwrap() {
        String begin = "type 0 1 1\ntype 0 1 0\nwrap 0 0 4 4\n";
        Script.run("8 unwrap: the token that opens it and that which closes it", begin + """
            split 0 3
            unwrap 0 0 -> 4
            doc 0 -> 1 100 0 1 104 0
            """);
        Script.run("8 unwrap: an empty node", """
            split 0 1
            unwrap 0 2 -> 1
            doc 0 -> 1 0
            """);
        Script.run("8 unwrap: no node is opened there", begin + """
            unwrap 0 2 -> state            # a character
            unwrap 0 4 -> state            # a token that closes
            unwrap 0 6 -> state            # nothing
            """);
        Script.run("8 unwrap: no such position", begin + """
            unwrap 0 -1 -> index
            unwrap 0 7 -> index
            """);
        each("8 unwrap: no such position", begin, "unwrap 0 N", FAR, "index");
        Script.run("8 unwrap: the document would not be valid", begin + """
            unwrap 0 1 -> state
            unwrap 0 0 -> 4
            unwrap 0 0 -> state
            """);
        Script.run("8 unwrap: of nodes in nodes just that one", SetUp.LOOSE_RULES + """
            wrap 0 0 2 2
            wrap 0 0 4 3
            wrap 0 0 6 2
            type 0 4 0
            type 0 6 1
            doc 0 -> 2 3 2 1 100 0 104 0 0 0
            unwrap 0 2 -> 2
            doc 0 -> 2 3 1 100 0 104 0 0
            unwrap 0 1 -> 3
            doc 0 -> 2 1 100 0 104 0
            """);
    }

    private static void setType() {
        String begin = SetUp.LOOSE_RULES + "type 0 1 0\nwrap 0 0 3 3\n";
        each("9 setType: type: 1 to 5", begin, "setType 0 0 N", new int[] {1, 2, 4, 5}, "3");
        each("9 setType: no such type", begin, "setType 0 0 N", new int[] {-1, 0, 6}, "index");
        each("9 setType: no such type", begin, "setType 0 0 N", FAR, "index");
        each("9 setType: no such type, where no node is opened", begin, "setType 0 2 N",
            new int[] {0, 6}, "index");
        Script.run("9 setType: it has this type", begin + """
            setType 0 0 3 -> state
            setType 0 0 5 -> 3
            setType 0 0 5 -> state
            setType 0 0 3 -> 5
            """);
        Script.run("9 setType: no node is opened there", begin + """
            setType 0 2 4 -> state
            setType 0 3 4 -> state
            setType 0 5 4 -> state
            doc 0 -> 3 1 100 0 0
            """);
        Script.run("9 setType: no such position", begin + """
            setType 0 -1 4 -> index
            setType 0 6 4 -> index
            """);
        each("9 setType: no such position", begin, "setType 0 N 4", FAR, "index");
        Script.run("9 setType: the document would not be valid", """
            wrap 0 0 2 4
            setType 0 0 1 -> state
            setType 0 0 2 -> state
            setType 0 0 3 -> state
            setType 0 1 4 -> state
            setType 0 0 5 -> 4
            """);
        Script.run("9 setType: it takes the token that opens it, and puts another one", begin + """
            setType 0 1 4 -> 1
            doc 0 -> 3 4 100 0 0
            send 0
            revert 0 2 -> 5
            doc 0 -> 3 1 100 0 0
            """);
    }

    private static void mark() {
        String begin = "type 0 1 1\ntype 0 1 0\n";
        each("10 mark: 0 or 1", begin, "mark 0 1 3 N true", new int[] {0, 1}, "2");
        each("10 mark: no such mark", begin, "mark 0 1 3 N true", new int[] {-1, 2, 3}, "index");
        each("10 mark: no such mark", begin, "mark 0 1 3 N false", FAR, "index");
        each("10 mark: no such mark, and to is not later", begin, "mark 0 3 1 N true", new int[] {-1, 2},
            "index");
        each("10 mark: from: no such position", begin, "mark 0 N 3 0 true", new int[] {-1, 5}, "index");
        each("10 mark: from: no such position", begin, "mark 0 N 3 0 true", FAR, "index");
        each("10 mark: to: no such position", begin, "mark 0 1 N 0 true", new int[] {-1, 5}, "index");
        each("10 mark: to: no such position", begin, "mark 0 1 N 0 true", FAR, "index");
        Script.run("10 mark: to is not later than from", begin + """
            mark 0 2 2 0 true -> argument
            mark 0 3 2 0 true -> argument
            mark 0 4 0 0 true -> argument
            mark 0 0 0 0 true -> argument
            """);
        Script.run("10 mark: it returns how many characters there are, also those that have it", begin + """
            mark 0 1 2 0 true -> 1
            mark 0 0 4 0 true -> 2
            split 0 2
            mark 0 2 5 1 true -> 1
            mark 0 0 6 1 true -> 2
            """);
    }

    private static void marksThatChangeNothing() {
        String begin = "type 0 1 1\ntype 0 1 0\n";
        Script.run("10 mark: no character is there for which that changes something: none is there",
            begin + """
            split 0 2
            mark 0 2 4 0 true -> state
            mark 0 0 1 0 true -> state
            mark 0 5 6 0 true -> state
            """);
        Script.run("10 mark: no character is there for which that changes something: all have it",
            begin + """
            mark 0 1 3 0 true
            mark 0 1 3 0 true -> state
            mark 0 1 2 0 true -> state
            mark 0 0 4 0 true -> state
            mark 0 1 3 1 true -> 2
            """);
        Script.run("10 mark: no character is there for which that changes something: none has it",
            begin + """
            mark 0 1 3 0 false -> state
            mark 0 1 3 1 false -> state
            mark 0 1 3 0 true
            mark 0 1 3 1 false -> state
            mark 0 1 3 0 false -> 2
            """);
        Script.run("10 mark: one is enough", begin + """
            mark 0 1 2 0 true
            mark 0 1 3 0 true -> 2
            mark 0 2 3 0 false -> 1
            mark 0 1 3 0 false -> 2
            mark 0 2 4 1 true -> 1
            """);
    }

    private static void copy() {
        String begin = "type 0 1 1\ntype 0 1 0\n";
        Script.run("11 copy: both ends", begin + """
            copy 0 0 1 -> 2
            copy 0 3 4 -> 2
            copy 0 0 4 -> 4
            copy 0 1 2 -> 1
            """);
        each("11 copy: from: no such position", begin, "copy 0 N 4", new int[] {-1, 5}, "index");
        each("11 copy: from: no such position", begin, "copy 0 N 4", FAR, "index");
        each("11 copy: to: no such position", begin, "copy 0 0 N", new int[] {-1, 5}, "index");
        each("11 copy: to: no such position", begin, "copy 0 0 N", FAR, "index");
        Script.run("11 copy: to is not later than from", begin + """
            copy 0 2 2 -> argument
            copy 0 3 2 -> argument
            copy 0 4 0 -> argument
            copy 0 0 0 -> argument
            paste 0 1 -> state             # it has copied nothing
            """);
        Script.run("11 copy: in place of what the client had copied", begin + """
            copy 0 1 3 -> 2
            copy 0 2 3 -> 1
            copy 0 3 3 -> argument
            copy 0 3 5 -> index
            copy 1 0 1 -> 2
            paste 0 1 -> 1
            doc 0 -> 1 104 100 104 0
            """);
        Script.run("11 copy: it is no step", begin + """
            copy 0 1 3
            version 0 -> 2
            takeBack 0
            takeBack 0
            paste 0 1 -> 2
            doc 0 -> 1 100 104 0
            """);
    }

    private static void paste() {
        Script.run("12 paste: it has copied nothing", """
            paste 0 0 -> state
            paste 0 1 -> state
            copy 1 0 2
            paste 0 0 -> state
            paste 1 0 -> 2
            """);
        Script.run("12 paste: both ends of the document", """
            type 0 1 0
            copy 0 0 3
            paste 0 0 -> 3
            paste 0 6 -> 3
            paste 0 9 -> 3
            paste 0 -1 -> index
            paste 0 13 -> index
            """);
        each("12 paste: no such position", "copy 0 0 2\n", "paste 0 N", new int[] {-1, 3}, "index");
        each("12 paste: no such position", "copy 0 0 2\n", "paste 0 N", FAR, "index");
        each("12 paste: no such position, with nothing copied", "", "paste 0 N", new int[] {-1, 3}, "index");
        Script.run("12 paste: nothing fits", """
            split 0 1
            copy 0 0 4
            paste 0 1 -> state
            copy 0 0 2
            paste 0 1 -> state
            paste 0 2 -> 2
            """);
        Script.run("12 paste: it returns how many tokens are put", """
            type 0 1 0
            copy 0 0 3
            paste 0 1 -> 1
            paste 0 0 -> 3
            copy 0 1 2
            paste 0 0 -> 3
            """);
        Script.run("12 paste: what was copied can be pasted again and again", """
            type 0 1 0
            copy 0 1 2
            erase 0 1 2
            paste 0 1 -> 1
            send 0
            paste 0 1 -> 1
            paste 0 1 -> 1
            doc 0 -> 1 100 100 100 0
            """);
    }

    private static void takeBack() {
        Script.run("13 takeBack: none is pending", """
            takeBack 0 -> state
            type 0 1 0
            takeBack 1 -> state
            takeBack 0 -> 0
            takeBack 0 -> state
            type 0 1 0
            send 0
            takeBack 0 -> state
            doc 0 -> 1 100 0
            """);
        Script.run("13 takeBack: all ten", """
            10 x type 0 1 0
            takeBack 0 -> 9
            8 x takeBack 0
            doc 0 -> 1 100 0
            takeBack 0 -> 0
            doc 0 -> 1 0
            """);
        Script.run("13 takeBack: the document is as if it had not been made: each kind of step", """
            type 0 1 1
            type 0 1 0
            mark 0 1 2 0 true
            mark 0 1 3 0 true
            takeBack 0 -> 3
            doc 0 -> 1 101 104 0
            erase 0 1 3
            takeBack 0
            split 0 2
            takeBack 0
            wrap 0 0 4 4
            setType 0 0 5
            takeBack 0 -> 4
            doc 0 -> 4 1 101 104 0 0
            unwrap 0 0
            takeBack 0
            copy 0 0 6
            paste 0 6
            takeBack 0
            takeBack 0 -> 3
            doc 0 -> 1 101 104 0
            """);
    }

    private static void whatTakingBackLeaves() {
        Script.run("13 takeBack: what was copied stays", """
            type 0 1 0
            copy 0 1 2
            takeBack 0 -> 0
            paste 0 1 -> 1
            doc 0 -> 1 100 0
            """);
        Script.run("13 takeBack: comments stay", SetUp.FOUR_LETTERS + """
            comment 2 3 -> 0
            comment 3 5 -> 1
            erase 0 2 3
            send 0
            type 0 1 0
            takeBack 0
            commentAt 0 -> -1
            commentAt 1 -> 204
            """);
        Script.run("13 takeBack: the number of lost steps stays", SetUp.FOUR_LETTERS + """
            type 1 3 9
            type 1 1 8
            erase 0 2 4
            send 0
            receive 1
            lost 1 -> 1
            takeBack 1 -> 0
            lost 1 -> 1
            doc 1 -> 1 100 112 0
            takeBack 1 -> state            # the lost one is not pending
            """);
        Script.run("13 takeBack: to what was received", SetUp.FOUR_LETTERS + """
            type 1 3 9
            type 0 1 8
            send 0
            receive 1
            takeBack 1 -> 0
            doc 1 -> 1 132 100 104 108 112 0
            version 1 -> 500
            """);
    }

    private static void revert() {
        Script.run("14 revert: 0 to the version of the client less 1", SetUp.FOUR_LETTERS + """
            revert 0 0 -> 5
            revert 0 3 -> 4
            revert 0 4 -> index
            revert 0 -1 -> index
            doc 0 -> 1 104 108 0
            """);
        each("14 revert: step is out of range", SetUp.FOUR_LETTERS, "revert 0 N", FAR, "index");
        each("14 revert: step is out of range: with nothing confirmed", "type 0 1 0\n", "revert 0 N",
            new int[] {-1, 0, 1}, "index");
        Script.run("14 revert: of the client, not of the authority", SetUp.FOUR_LETTERS + """
            type 0 1 9
            send 0
            revert 1 4 -> index
            revert 1 3 -> 5
            doc 1 -> 1 104 108 112 0       # not through what it has not received
            receive 1
            revert 1 4 -> 5
            doc 1 -> 1 104 108 112 0
            """);
        Script.run("14 revert: a pending step is not confirmed", SetUp.FOUR_LETTERS + """
            type 0 1 9
            revert 0 4 -> index
            send 0
            revert 0 4 -> 6
            """);
        Script.run("14 revert: the document would not be valid", """
            rule 1 0 64 1
            type 0 1 0
            erase 0 1 2
            type 0 1 1
            send 0
            revert 0 1 -> state            # two characters
            erase 0 1 2
            revert 0 1 -> 3
            doc 0 -> 1 100 0
            """);
        Script.run("14 revert: the inverse is dropped", SetUp.FOUR_LETTERS + """
            erase 0 1 5
            revert 0 1 -> state            # it typed a character amid what was erased
            revert 0 0 -> 2                # this one's was at the edge
            version 0 -> 402
            """);
        Script.run("14 revert: it is an edit, which can be taken back, and sent, and reverted",
            SetUp.FOUR_LETTERS + """
            revert 0 2 -> 5
            takeBack 0 -> 0
            doc 0 -> 1 100 104 108 112 0
            revert 0 2 -> 5
            send 0 -> 1
            revert 0 4 -> 6
            doc 3 -> 1 100 108 112 0
            doc 0 -> 1 100 104 108 112 0
            """);
    }

    private static void send() {
        Script.run("15 send: it returns how many steps are confirmed by that", """
            send 0 -> 0
            type 0 1 0
            send 0 -> 1
            10 x type 0 1 0
            send 0 -> 10
            send 0 -> 0
            """);
        Script.run("15 send: it does not have the version of the authority", """
            type 0 1 0
            type 1 1 0
            send 0
            send 1 -> state
            send 2 -> state
            version 1 -> 1
            receive 1
            receive 2
            send 2 -> 0
            send 1 -> 1
            send 0 -> state
            """);
        String fifty = "5 x type 0 1 0; erase 0 1 2\nsend 0 -> 10\n".repeat(5);
        Script.run("15 send: there would be more than 60 confirmed steps: just 60", fifty + """
            10 x type 0 1 0
            send 0 -> 10
            version 0 -> 6000
            size 3 -> 12
            """);
        Script.run("15 send: there would be more than 60 confirmed steps: 61", fifty + """
            type 0 1 0
            send 0 -> 1
            10 x type 0 1 0
            send 0 -> state
            version 0 -> 5110
            size 3 -> 3
            takeBack 0
            send 0 -> 9
            version 0 -> 6000
            size 3 -> 12
            """);
        Script.run("15 send: there would be more than 60 confirmed steps: none is pending", fifty + """
            10 x type 0 1 0
            send 0
            send 0 -> 0
            receive 1 -> 60
            send 1 -> 0
            type 1 1 0
            send 1 -> state
            takeBack 1
            send 1 -> 0
            """);
    }

    private static void receive() {
        Script.run("16 receive: it returns how many confirmed steps it receives", """
            receive 0 -> 0
            10 x type 0 1 0
            send 0
            receive 0 -> 0
            receive 1 -> 10
            receive 1 -> 0
            type 1 1 0
            send 1
            receive 0 -> 1
            receive 2 -> 11
            """);
        Script.run("16 receive: all 60 at once, with ten that are pending and have partners",
            "5 x type 1 1 9; mark 1 1 2 0 true\n" + "5 x type 0 1 0; erase 0 1 2\nsend 0\n".repeat(5) + """
            10 x type 0 1 0
            send 0
            receive 1 -> 60
            lost 1 -> 0
            doc 1 -> 1 100 100 100 100 100 100 100 100 100 100 137 137 137 137 137 0
            """);
        Script.run("16 receive: all 60 at once, with ten that are pending",
            "10 x type 1 1 9\n" + "5 x type 0 1 0; erase 0 1 2\nsend 0 -> 10\n".repeat(6) + """
            receive 1 -> 60
            version 1 -> 6010
            lost 1 -> 0
            doc 1 -> 1 136 136 136 136 136 136 136 136 136 136 0
            send 1 -> state
            """);
    }

    private static void lost() {
        Script.run("17 lost: in all receiving", SetUp.FOUR_LETTERS + """
            lost 1 -> 0
            type 1 3 9
            lost 1 -> 0
            erase 0 2 4
            send 0
            lost 1 -> 0
            receive 1
            lost 1 -> 1
            receive 1
            lost 1 -> 1
            type 0 2 8
            send 0
            receive 1
            2 x mark 1 2 3 0 true; mark 1 2 3 0 false
            erase 0 1 4
            send 0
            receive 1
            lost 1 -> 5
            lost 0 -> 0
            lost 2 -> 0
            """);
    }

    private static void version() {
        Script.run("18 version: 100 * version + pending steps", "10 x type 1 1 9\n"
            + "5 x type 0 1 0; erase 0 1 2\nsend 0 -> 10\n".repeat(6) + """
            version 1 -> 10
            version 2 -> 0
            version 0 -> 6000
            receive 1
            version 1 -> 6010
            takeBack 1
            version 1 -> 6009
            """);
    }

    private static void isBuilt() {
        String tenSteps = "4 x type 0 1 0; erase 0 1 2\ntype 0 1 0\nmark 0 1 2 0 true\nsend 0\n";
        Script.run("19 isBuilt: with no confirmed step, and with 60", """
            isBuilt -> true
            type 1 1 0
            isBuilt -> true
            """ + tenSteps.repeat(6) + """
            version 0 -> 6000
            isBuilt -> true
            doc 3 -> 1 101 101 101 101 101 101 0
            """);
        Script.run("19 isBuilt: it changes nothing", SetUp.FOUR_LETTERS + """
            mark 0 1 3 0 true
            erase 0 2 4
            wrap 0 0 4 4
            send 0
            isBuilt -> true
            revert 0 5 -> 8
            doc 0 -> 4 1 101 105 108 112 0 0
            """);
    }

    private static void documents() {
        Script.run("20 size: each document, an empty one too", "rule 0 0 126 2\n" + """
            erase 0 0 2
            type 1 1 0
            size 0 -> 0
            size 1 -> 3
            size 2 -> 2
            size 3 -> 2
            send 0
            size 3 -> 0
            """);
        Script.run("21 token: 0 to the number of tokens less 1", """
            type 1 1 25
            token 1 0 -> 1
            token 1 2 -> 0
            token 1 3 -> index
            token 1 -1 -> index
            token 0 2 -> index
            token 2 1 -> 0
            token 3 1 -> 0
            token 3 2 -> index
            """);
        each("21 token: no token behind the position", "", "token 0 N", FAR, "index");
        each("21 token: no token behind the position", "", "token 3 N", FAR, "index");
        Script.run("21 token: of an empty document", """
            rule 0 0 126 2
            erase 0 0 2
            token 0 0 -> index
            """);
        Script.run("22 around: a position: both ends", """
            type 1 1 0
            around 1 0 -> 0
            around 1 1 -> 11
            around 1 2 -> 11
            around 1 3 -> 0
            around 1 4 -> index
            around 1 -1 -> index
            around 3 2 -> 0
            around 3 3 -> index
            """);
        each("22 around: no such position", "", "around 0 N", FAR, "index");
        each("22 around: no such position", "", "around 3 N", FAR, "index");
    }

    private static void comment() {
        Script.run("23 comment: both ends of the authority's document", """
            comment 0 2 -> 0
            comment 0 1 -> 1
            comment 1 2 -> 2
            """);
        each("23 comment: from: no such position", "", "comment N 2", new int[] {-1, 3}, "index");
        each("23 comment: from: no such position", "", "comment N 2", FAR, "index");
        each("23 comment: to: no such position", "", "comment 0 N", new int[] {-1, 3}, "index");
        each("23 comment: to: no such position", "", "comment 0 N", FAR, "index");
        Script.run("23 comment: to is not later than from", """
            comment 1 1 -> argument
            comment 2 1 -> argument
            comment 0 0 -> argument
            comment 2 2 -> argument
            comment 2 0 -> argument
            commentAt 0 -> index
            """);
        Script.run("23 comment: there are 10 comments", """
            9 x comment 0 2
            comment 0 1 -> 9
            comment 0 1 -> state
            comment 1 1 -> argument
            comment 0 3 -> index
            commentAt 9 -> 1
            """);
    }

    private static void commentAt() {
        each("24 commentAt: no such comment", "", "commentAt N", new int[] {-1, 0, 9, 10}, "index");
        each("24 commentAt: no such comment", "comment 0 2\n", "commentAt N", new int[] {-1, 1, 2}, "index");
        each("24 commentAt: no such comment", "10 x comment 0 2\n", "commentAt N", new int[] {-1, 10}, "index");
        each("24 commentAt: no such comment", "10 x comment 0 2\n", "commentAt N", FAR, "index");
        Script.run("24 commentAt: 100 * the first position + the second", SetUp.FULL_DOCUMENT + """
            send 0
            comment 0 60 -> 0
            comment 59 60 -> 1
            comment 0 1 -> 2
            commentAt 0 -> 60
            commentAt 1 -> 5960
            commentAt 2 -> 1
            """);
        Script.run("24 commentAt: -1 if it is gone", SetUp.FOUR_LETTERS + """
            comment 1 2 -> 0
            erase 0 1 2
            commentAt 0 -> 102
            send 0
            commentAt 0 -> -1
            comment 1 2 -> 1
            commentAt 0 -> -1
            commentAt 1 -> 102
            """);
    }
}
