/**
 * The sentences of "Terms" about documents, rules, edits, the authority and comments that name a
 * boundary case, each with a script of its own that begins with its words.
 */
public final class TermsTest {
    private TermsTest() {
    }

    public static void main(String[] args) {
        calls();
        fullDocuments();
        tokens();
        positions();
        nodesAround();
        validity();
        changes();
        beginning();
        fullRows();
        tenPending();
        sending();
        receiving();
        copying();
        pasting();
        pastingWithinNodes();
        comments();
        commentsThatGo();
        refusals();
        Script.end();
    }

    private static void calls() {
        Script.run("An object is used for at most 512 calls: the last one", """
            510 x version 0
            type 0 1 0 -> 3
            size 0 -> 3
            """);
    }

    private static void fullDocuments() {
        String terms = "A document is a row of at most 60 tokens: ";
        Script.run(terms + "type", SetUp.FULL_DOCUMENT + """
            type 0 1 1 -> state
            erase 0 1 2 -> 59
            type 0 1 1 -> 60
            type 0 1 1 -> state
            """);
        Script.run(terms + "split", SetUp.FULL_DOCUMENT + """
            split 0 1 -> state             # 62
            erase 0 1 2 -> 59
            split 0 1 -> state             # 61
            erase 0 3 4 -> 58
            split 0 1 -> 1
            size 0 -> 60
            """);
        Script.run(terms + "wrap", SetUp.FULL_DOCUMENT + """
            wrap 0 0 60 4 -> state
            erase 0 1 2 -> 59
            wrap 0 0 59 4 -> state
            erase 0 3 4 -> 58
            wrap 0 0 58 4 -> 60
            """);
        Script.run(terms + "paste", SetUp.FULL_DOCUMENT + """
            copy 0 0 3
            paste 0 0 -> state
            erase 0 1 2 -> 59
            paste 0 0 -> state
            erase 0 3 4 -> 58
            paste 0 0 -> state             # 61
            erase 0 5 6 -> 57
            paste 0 0 -> 3
            size 0 -> 60
            """);
        Script.run(terms + "paste within a node", SetUp.FULL_DOCUMENT + """
            copy 0 1 2 -> 1
            erase 0 1 2 -> 59
            paste 0 0 -> state             # 3 tokens more
            erase 0 3 4 -> 58
            paste 0 0 -> state
            erase 0 5 6 -> 57
            paste 0 0 -> 3
            size 0 -> 60
            """);
        Script.run(terms + "paste within a node, just 60", """
            rule 0 0 2 2
            type 0 1 0
            copy 0 1 2
            paste 0 1
            copy 0 1 3
            paste 0 1
            copy 0 1 5
            paste 0 1
            copy 0 1 9
            paste 0 1
            copy 0 1 17
            paste 0 1
            copy 0 1 27
            paste 0 1
            copy 0 1 59 -> 58
            erase 0 0 60 -> 0
            paste 0 0 -> 60
            token 0 59 -> 0
            """);
        Script.run(terms + "paste what is in the node, which fits alone", SetUp.FULL_DOCUMENT + """
            copy 0 0 3
            erase 0 1 2 -> 59
            paste 0 1 -> 1
            size 0 -> 60
            """);
        Script.run(terms + "revert", SetUp.FULL_DOCUMENT + """
            send 0
            erase 0 1 2 -> 59
            send 0
            type 0 1 5 -> 60
            revert 0 6 -> state
            takeBack 0 -> 0
            revert 0 6 -> 60
            """);
        Script.run(terms + "receive", SetUp.FULL_DOCUMENT + """
            erase 0 1 2 -> 59
            send 0
            receive 1
            type 1 1 2 -> 60
            type 0 3 7 -> 60
            send 0
            receive 1
            size 1 -> 60
            lost 1 -> 1
            version 1 -> 800
            """);
        Script.run(terms + "receive, just 60", SetUp.FULL_DOCUMENT + """
            erase 0 1 2
            erase 0 3 4 -> 58
            send 0
            receive 1
            type 1 1 2 -> 59
            type 0 3 7 -> 59
            send 0
            receive 1
            size 1 -> 60
            lost 1 -> 0
            version 1 -> 901
            """);
    }

    private static void tokens() {
        Script.run("A token is a number: 1 to 5 opens a node of that type", SetUp.LOOSE_RULES + """
            wrap 0 0 2 1
            wrap 0 0 4 2
            wrap 0 0 6 3
            wrap 0 0 8 4
            wrap 0 0 10 5
            doc 0 -> 5 4 3 2 1 1 0 0 0 0 0 0
            """);
        Script.run("100 to 203 is a character: 100 + 4 * its letter, 0 to 25, + its marks", """
            type 0 1 0
            type 0 2 25
            type 0 2 12
            doc 0 -> 1 100 148 200 0
            mark 0 1 4 0 true
            mark 0 1 4 1 true
            doc 0 -> 1 103 151 203 0
            """);
        Script.run("the mark 0, which counts 1, and the mark 1, which counts 2", """
            type 0 1 0
            mark 0 1 2 0 true
            token 0 1 -> 101
            mark 0 1 2 1 true
            token 0 1 -> 103
            mark 0 1 2 0 false
            token 0 1 -> 102
            mark 0 1 2 1 false
            token 0 1 -> 100
            """);
    }

    private static void positions() {
        String[] calls = {
            "type 0 P 0", "erase 0 P 2", "erase 0 0 P", "split 0 P", "join 0 P", "wrap 0 P 2 4",
            "wrap 0 0 P 4", "unwrap 0 P", "setType 0 P 4", "mark 0 P 2 0 true", "mark 0 0 P 0 true",
            "copy 0 P 2", "copy 0 0 P", "paste 0 P", "around 0 P", "comment P 2", "comment 0 P",
            "around 3 P"
        };
        for (String call : calls) {
            for (int position : new int[] {Integer.MIN_VALUE, -1, 3, Integer.MAX_VALUE}) {
                Script.run("Positions are 0 to the number of tokens", "copy 0 0 2\n"
                    + call.replace("P", "" + position) + " -> index\n");
            }
        }
        Script.run("Positions are 0 to the number of tokens: both ends", """
            around 0 0 -> 0
            around 0 2 -> 0
            comment 0 2 -> 0
            copy 0 0 2 -> 2
            paste 0 0 -> 2
            paste 0 4 -> 2
            mark 0 0 6 0 true -> state
            mark 0 6 6 0 true -> argument
            type 0 6 0 -> state
            split 0 6 -> state
            join 0 0 -> state
            join 0 6 -> state
            unwrap 0 6 -> state
            setType 0 6 4 -> state
            wrap 0 0 6 4 -> 8
            erase 0 0 8 -> state
            """);
    }

    private static void nodesAround() {
        Script.run("The node around a position is the one that was opened last ahead of it", """
            wrap 0 0 2 5
            around 0 1 -> 15
            around 0 2 -> 21
            """);
        Script.run("and is not closed there", """
            wrap 0 0 2 5
            around 0 3 -> 15
            """);
        Script.run("around a position that is in no node is the document itself, of the type 0", """
            split 0 1
            around 0 0 -> 0
            around 0 2 -> 0
            around 0 4 -> 0
            split 0 0 -> state
            split 0 2 -> state
            split 0 4 -> state
            """);
        StringBuilder wraps = new StringBuilder();
        for (int size = 2; size < 60; size += 2) {
            wraps.append("wrap 0 0 ").append(size).append(size < 58 ? " 4\n" : " 5\n").append("send 0\n");
        }
        Script.run("around a position in as many nodes as 60 tokens can open", SetUp.LOOSE_RULES + wraps
            + """
            size 0 -> 60
            around 0 30 -> 301
            around 0 29 -> 294
            around 0 1 -> 15
            around 0 60 -> 0
            wrap 0 0 60 4 -> state
            """);
    }

    private static void validity() {
        Script.run("A document is valid if each token 0 closes a node that is open there", """
            split 0 1
            erase 0 0 1 -> state           # 0 1 0
            erase 0 0 3 -> state           # 0
            """);
        Script.run("each node is closed", """
            split 0 1
            erase 0 3 4 -> state           # 1 0 1
            erase 0 1 4 -> state           # 1
            """);
        Script.run("the contents of all nodes fit", """
            wrap 0 0 2 4
            type 0 1 0 -> state
            type 0 3 0 -> state
            erase 0 1 3 -> state           # 4 0
            split 0 2
            type 0 3 0 -> state
            erase 0 1 3 -> 4
            """);
        Script.run("the contents of the document itself fit", """
            type 0 0 0 -> state
            type 0 2 0 -> state
            erase 0 0 2 -> state
            split 0 1
            type 0 2 0 -> state
            """);
    }

    private static void changes() {
        Script.run("at a position some tokens are taken away, and others are put there; both at once",
            SetUp.LOOSE_RULES + """
            type 0 1 0
            wrap 0 1 2 2                   # both positions are those of the document before
            doc 0 -> 1 2 100 0 0
            unwrap 0 1
            doc 0 -> 1 100 0
            """);
        Script.run("Its inverse puts the former ones back", """
            type 0 1 0
            type 0 1 1
            mark 0 1 2 1 true
            erase 0 1 3
            send 0
            revert 0 3 -> 4
            doc 0 -> 1 106 100 0
            """);
        Script.run("A marking sets a mark of all characters between two positions", SetUp.FOUR_LETTERS
            + """
            mark 0 2 4 0 true -> 2
            doc 0 -> 1 100 105 109 112 0
            mark 0 1 3 0 true -> 2         # it is not turned over where it was set
            doc 0 -> 1 101 105 109 112 0
            mark 0 0 6 1 true -> 4         # other tokens stay
            doc 0 -> 1 103 107 111 114 0
            """);
        Script.run("or clears it", SetUp.FOUR_LETTERS + """
            mark 0 1 5 1 true
            mark 0 2 4 1 false -> 2
            doc 0 -> 1 102 104 108 114 0
            mark 0 3 5 1 false -> 2
            doc 0 -> 1 102 104 108 112 0
            """);
        Script.run("Its inverse clears it of all of these", """
            type 0 1 0
            type 0 1 1
            mark 0 1 2 0 true
            mark 0 1 3 0 true
            send 0
            revert 0 3 -> 4
            doc 0 -> 1 104 100 0
            """);
        Script.run("Its inverse sets it of all of these", """
            type 0 1 0
            type 0 1 1
            mark 0 1 2 0 true
            mark 0 1 3 0 false
            send 0
            revert 0 3 -> 4
            doc 0 -> 1 105 101 0
            """);
    }

    private static void beginning() {
        Script.run("All begin with the document of one empty paragraph, the tokens 1 and 0", """
            doc 0 -> 1 0
            doc 1 -> 1 0
            doc 2 -> 1 0
            doc 3 -> 1 0
            version 0 -> 0
            version 1 -> 0
            version 2 -> 0
            """);
        Script.run("its document is the confirmed one of its version with its pending steps", """
            type 0 1 0
            type 1 1 1
            send 0
            doc 0 -> 1 100 0
            doc 1 -> 1 104 0
            doc 2 -> 1 0
            doc 3 -> 1 100 0
            """);
    }

    private static void fullRows() {
        String tenSteps = "5 x type 0 1 0; erase 0 1 2\nsend 0 -> 10\n";
        Script.run("The authority has a log of confirmed steps, at most 60", tenSteps.repeat(6) + """
            version 0 -> 6000
            send 0 -> 0
            type 0 1 0
            send 0 -> state
            version 0 -> 6001
            receive 1 -> 60
            isBuilt -> true
            """);
        Script.run("steps of its own behind that, which are pending, at most 10", SetUp.TEN_PENDING + """
            type 0 1 0 -> state
            takeBack 0 -> 9
            type 0 1 0 -> 5
            version 0 -> 10
            send 0 -> 10
            10 x type 0 1 0
            version 0 -> 1010
            """);
        Script.run("at most 10, of each client", """
            10 x type 0 1 0
            10 x type 1 1 0
            10 x type 2 1 0
            version 2 -> 10
            type 0 1 0 -> state
            type 1 1 0 -> state
            type 2 1 0 -> state
            """);
    }

    /** Each edit as the tenth pending step, and as one more. */
    private static void tenPending() {
        String begin = SetUp.LOOSE_RULES + """
            type 0 1 1
            type 0 1 0
            split 0 2
            wrap 0 0 6 4
            send 0
            doc 0 -> 4 1 100 0 1 104 0 0
            copy 0 2 3
            mark 0 2 3 1 true
            4 x mark 0 2 3 1 false; mark 0 2 3 1 true
            version 0 -> 409
            """;
        String[] edits = {
            "type 0 2 0 -> 9", "erase 0 2 3 -> 7", "split 0 2 -> 1", "join 0 4 -> 1",
            "wrap 0 1 7 5 -> 10", "unwrap 0 0 -> 4", "setType 0 0 5 -> 4", "mark 0 0 8 0 true -> 2",
            "paste 0 2 -> 1", "revert 0 0 -> 7"
        };
        for (String edit : edits) {
            String call = edit.replaceAll(" ->.*", "");
            Script.run("An edit is not possible if there are 10 pending: " + call, begin
                + "mark 0 2 3 1 false\n" + call + " -> state\n"
                + "takeBack 0 -> 9\n" + edit + "\nversion 0 -> 410\n" + call + " -> state\n");
        }
        Script.run("takeBack, send, receive and copy are no edits: 10 pending", SetUp.TEN_PENDING + """
            copy 0 1 2 -> 1
            receive 0 -> 0
            version 0 -> 10
            send 0 -> 10
            copy 0 1 2 -> 1
            """);
    }

    private static void sending() {
        Script.run("Sending: if the client has the version of the authority", """
            type 0 1 0
            type 1 1 1
            send 0 -> 1
            send 1 -> state
            version 1 -> 1
            receive 1
            send 1 -> 1
            send 0 -> state
            send 2 -> state
            receive 2 -> 2
            send 2 -> 0
            """);
        Script.run("all of its pending steps are confirmed, in order", """
            type 0 1 0
            mark 0 1 2 0 true
            split 0 2
            erase 0 1 2
            send 0 -> 4
            doc 3 -> 1 0 1 0
            version 0 -> 400
            takeBack 0 -> state
            revert 0 3 -> 5
            doc 0 -> 1 101 0 1 0
            """);
    }

    private static void receiving() {
        Script.run("Receiving: the client gets the version of the authority", """
            receive 1 -> 0
            type 0 1 0
            receive 1 -> 0                 # not before it is confirmed
            send 0
            receive 1 -> 1
            version 1 -> 100
            doc 1 -> 1 100 0
            receive 1 -> 0
            version 1 -> 100
            """);
        Script.run("with nothing pending, and with nothing that comes", SetUp.FOUR_LETTERS + """
            type 1 3 9
            mark 1 3 4 0 true
            erase 1 1 2
            split 1 2
            doc 1 -> 1 104 0 1 137 108 112 0
            receive 1 -> 0
            doc 1 -> 1 104 0 1 137 108 112 0
            version 1 -> 404
            receive 2 -> 0
            doc 2 -> 1 100 104 108 112 0
            """);
        Script.run("those that are dropped are lost; the others are pending, in order",
            SetUp.FOUR_LETTERS + """
            type 1 5 9
            type 1 3 8
            type 1 1 7
            doc 1 -> 1 128 100 104 132 108 112 136 0
            erase 0 2 4
            send 0
            receive 1
            doc 1 -> 1 128 100 112 136 0
            version 1 -> 502
            lost 1 -> 1
            takeBack 1 -> 1                # the last one is that which was made last
            doc 1 -> 1 100 112 136 0
            """);
        Script.run("those with which the document would not be valid are lost", """
            rule 1 0 64 1
            split 0 1
            send 0
            receive 1
            type 1 1 0
            type 1 4 1
            type 0 1 2
            send 0
            receive 1
            doc 1 -> 1 108 0 1 104 0
            version 1 -> 201
            lost 1 -> 1
            """);
        Script.run("one after the other: valid with those that are kept, not with those that are lost", """
            rule 1 0 64 1
            split 0 1
            send 0
            receive 1
            type 1 1 0
            erase 1 1 2                    # with the lost one this takes nothing
            type 1 1 1                     # which would have room just where the erasing took one
            type 0 1 2
            send 0
            receive 1
            doc 1 -> 1 108 0 1 0
            version 1 -> 201
            lost 1 -> 2
            """);
        Script.run("all ten are lost", SetUp.FOUR_LETTERS + """
            5 x type 1 3 9; type 2 3 9; mark 1 3 4 0 true
            erase 0 1 5
            send 0
            receive 1 -> 1
            lost 1 -> 10
            version 1 -> 500
            doc 1 -> 1 0
            receive 2
            lost 2 -> 5
            """);
        Script.run("all ten are kept", SetUp.FOUR_LETTERS + """
            5 x type 1 3 9; mark 1 3 4 0 true
            type 0 1 0
            send 0
            receive 1 -> 1
            lost 1 -> 0
            version 1 -> 510
            doc 1 -> 1 100 100 104 137 137 137 137 137 108 112 0
            type 1 1 0 -> state
            """);
    }

    private static void copying() {
        Script.run("Copying: the tokens between them", SetUp.FOUR_LETTERS + """
            mark 0 2 3 1 true
            copy 0 2 4 -> 2
            paste 0 5
            doc 0 -> 1 100 106 108 112 106 108 0
            """);
        Script.run("for each token among them that closes a node that is not opened among them", """
            wrap 0 0 2 4
            copy 0 1 3 -> 2                # opened among them
            copy 0 2 3 -> 2
            copy 0 3 4 -> 2
            copy 0 1 4 -> 4
            copy 0 2 4 -> 4
            copy 0 0 4 -> 4
            """);
        Script.run("from the last one to the first, one that opens a node of its type", """
            wrap 0 0 2 5
            type 0 2 3
            copy 0 3 5 -> 4
            paste 0 5 -> 4
            doc 0 -> 5 1 112 0 0 5 1 0 0
            """);
        Script.run("behind them one that closes for each node that is opened and not closed", """
            wrap 0 0 2 5
            copy 0 0 1 -> 2
            copy 0 1 2 -> 2
            copy 0 0 3 -> 4
            copy 0 0 2 -> 4
            paste 0 4 -> 4
            doc 0 -> 5 1 0 0 5 1 0 0
            """);
        Script.run("closes one and opens one", """
            type 0 1 0
            type 0 2 1
            split 0 2
            wrap 0 3 6 4
            doc 0 -> 1 100 0 4 1 104 0 0
            copy 0 2 4 -> 4
            paste 0 8 -> state             # 1 0 4 0 has an empty quote
            copy 0 2 5 -> 6
            paste 0 8 -> 6
            doc 0 -> 1 100 0 4 1 104 0 0 1 0 4 1 0 0
            """);
        Script.run("a slice of 60 tokens", SetUp.FULL_DOCUMENT + """
            copy 0 0 60 -> 60
            copy 0 1 59 -> 60
            copy 0 59 60 -> 2
            copy 0 1 60 -> 60
            """);
    }

    private static void pasting() {
        Script.run("Pasting tries: the tokens that were copied", """
            wrap 0 0 2 5
            copy 0 0 4 -> 4
            paste 0 0 -> 4
            paste 0 8 -> 4
            doc 0 -> 5 1 0 0 5 1 0 0 5 1 0 0
            """);
        Script.run("as long as what was tried last is one node, what is in that", """
            wrap 0 0 2 5
            type 0 2 6
            copy 0 0 5
            paste 0 1 -> 3
            doc 0 -> 5 1 124 0 1 124 0 0
            paste 0 2 -> 1
            doc 0 -> 5 1 124 124 0 1 124 0 0
            """);
        Script.run("is one node: neither two nodes, nor a node and a character", """
            rule 0 0 126 2
            type 0 1 6
            split 0 1
            type 0 1 7
            copy 0 0 6
            doc 0 -> 1 128 0 1 124 0
            paste 0 1 -> state             # neither both nor what is in the first one
            type 0 6 8
            copy 0 3 7
            paste 0 1 -> state
            type 0 0 9
            copy 0 0 4
            doc 0 -> 136 1 128 0 1 124 0 132
            paste 0 2 -> state
            copy 0 1 4
            paste 0 2 -> 1
            """);
        Script.run("what is in a node in one, if that is two nodes, but nothing further", """
            type 0 1 6
            split 0 1
            wrap 0 0 5 5
            wrap 0 0 7 4 -> state
            copy 0 0 7 -> 7
            doc 0 -> 5 1 0 1 124 0 0
            paste 0 1 -> 5
            doc 0 -> 5 1 0 1 124 0 1 0 1 124 0 0
            paste 0 2 -> state
            """);
        Script.run("nothing at all is never put", """
            copy 0 0 2
            paste 0 1 -> state
            version 0 -> 0
            wrap 0 0 2 5
            copy 0 0 4
            paste 0 2 -> state             # nor within the node within the node
            version 0 -> 1
            """);
        Script.run("the first one with which the document is valid: the node ahead of what is in it",
            SetUp.LOOSE_RULES + """
            type 0 1 6
            copy 0 0 3
            paste 0 1 -> 3
            doc 0 -> 1 1 124 0 124 0
            """);
        Script.run("the first one with which the document is valid: what is in it ahead of more nodes",
            """
            type 0 1 6
            copy 0 0 3
            rule 1 0 64 2 -> state
            paste 0 1 -> 1
            doc 0 -> 1 124 124 0
            """);
    }

    private static void pastingWithinNodes() {
        for (int type = 1; type <= 5; type++) {
            StringBuilder first = new StringBuilder("rule 0 0 62 2\n");
            StringBuilder just = new StringBuilder("rule 0 0 62 2\n");
            for (int other = 1; other <= 5; other++) {
                String empty = "rule " + other + " 0 0 0\nrule " + other + " 1 0 0\n";
                String holding = "rule " + other + " 0 64 2\nrule " + other + " 1 0 0\n";
                first.append(other >= type ? holding : empty);
                just.append(other == type ? holding : empty);
            }
            String script = """
                split 0 1
                FIRST
                type 0 1 9
                copy 0 1 2
                paste 0 3 -> 3
                doc 0 -> NODE 136 0 NODE 136 0 1 0
                paste 0 1 -> 1
                """.replace("FIRST", type == 1 ? "around 0 1 -> 11" : "setType 0 0 " + type)
                .replace("NODE", "" + type);
            Script.run("then within a node of the type 1, of 2, and so on to 5: just " + type,
                just + script);
            Script.run("then within a node of the type 1, of 2, and so on to 5: the first is " + type,
                first + script);
        }
        Script.run("the tokens that were copied within a node, not what is in them", """
            rule 0 0 50 2
            rule 5 0 16 2
            rule 5 1 0 0
            type 0 1 7
            wrap 0 0 3 4
            wrap 0 0 5 5
            copy 0 2 5 -> 3
            paste 0 1 -> 5                 # 1 128 0 and 128 do not fit, 4 1 128 0 0 does
            doc 0 -> 5 4 1 128 0 0 4 1 128 0 0 0
            """);
        Script.run("an empty node within a node", """
            rule 0 0 50 2
            rule 5 0 16 2
            rule 5 1 0 0
            copy 0 0 2
            wrap 0 0 2 4
            wrap 0 0 4 5
            paste 0 1 -> 4
            doc 0 -> 5 4 1 0 0 4 1 0 0 0
            """);
    }

    private static void comments() {
        Script.run("Comments are numbered from 0, at most 10", """
            comment 0 2 -> 0
            comment 1 2 -> 1
            7 x comment 0 1
            comment 0 2 -> 9
            comment 0 2 -> state
            commentAt 0 -> 2
            commentAt 1 -> 102
            commentAt 9 -> 2
            commentAt 10 -> index
            """);
        Script.run("at most 10, those that are gone included", SetUp.FOUR_LETTERS + """
            10 x comment 2 3
            erase 0 2 3
            send 0
            commentAt 0 -> -1
            commentAt 9 -> -1
            comment 1 2 -> state
            commentAt 10 -> index
            """);
        Script.run("a comment is between two positions of the authority's document", SetUp.FOUR_LETTERS + """
            type 0 1 0
            comment 0 7 -> index
            comment 0 6 -> 0
            commentAt 0 -> 6
            """);
        Script.run("With each step that is confirmed they are mapped", SetUp.FOUR_LETTERS + """
            comment 2 4 -> 0
            type 0 1 8
            type 0 1 8
            type 0 1 8
            commentAt 0 -> 204
            send 0
            commentAt 0 -> 507
            receive 1
            receive 2
            commentAt 0 -> 507
            """);
        Script.run("the first with the side right, the second with the side left", SetUp.FOUR_LETTERS + """
            comment 2 4 -> 0
            type 0 2 8
            send 0
            commentAt 0 -> 305
            type 0 5 8
            send 0
            commentAt 0 -> 305
            type 0 4 8                     # in it
            send 0
            commentAt 0 -> 306
            """);
    }

    private static void commentsThatGo() {
        Script.run("If the second is not greater than the first then, the comment is gone",
            SetUp.FOUR_LETTERS + """
            comment 2 4 -> 0
            comment 1 4 -> 1
            comment 2 5 -> 2
            comment 3 4 -> 3
            erase 0 2 4
            send 0
            commentAt 0 -> -1              # both are at 2
            commentAt 1 -> 102
            commentAt 2 -> 203
            commentAt 3 -> -1
            """);
        Script.run("gone also if just one of both was lost", SetUp.FOUR_LETTERS + """
            comment 3 5 -> 0
            comment 2 4 -> 1
            comment 1 3 -> 2
            comment 4 6 -> 3
            erase 0 2 5
            send 0
            commentAt 0 -> -1
            commentAt 1 -> -1
            commentAt 2 -> 102
            commentAt 3 -> 203
            """);
        Script.run("gone for good", SetUp.FOUR_LETTERS + """
            comment 2 4 -> 0
            erase 0 1 5
            send 0
            commentAt 0 -> -1
            revert 0 4
            send 0
            commentAt 0 -> -1
            doc 3 -> 1 100 104 108 112 0
            type 0 2 9
            send 0
            commentAt 0 -> -1
            comment 2 4 -> 1
            commentAt 0 -> -1
            """);
    }

    private static void refusals() {
        Script.run("If several apply, IndexOutOfBoundsException goes first", SetUp.TEN_PENDING + """
            erase 3 2 1 -> index
            erase 0 5 4 -> index
            erase 0 2 -1 -> index
            wrap 0 2 1 6 -> index
            wrap 0 2 2 0 -> index
            wrap 0 9 1 4 -> index
            wrap 3 2 1 4 -> index
            mark 0 2 1 2 true -> index
            mark 0 2 1 -1 true -> index
            mark 0 2 -1 0 true -> index
            mark 3 2 1 0 true -> index
            copy 0 2 -1 -> index
            copy 3 2 1 -> index
            comment 3 1 -> index
            comment 2 -1 -> index
            rule 6 3 1 4 -> index
            rule -1 0 2 0 -> index
            type 0 1 26 -> index
            type 0 5 0 -> index
            type 3 1 0 -> index
            split 0 5 -> index
            split -1 1 -> index
            join 0 -1 -> index
            unwrap 0 5 -> index
            setType 0 5 4 -> index
            setType 0 0 6 -> index
            setType 0 2 0 -> index
            setType 0 0 0 -> index
            paste 0 5 -> index             # it has copied nothing
            paste 3 0 -> index
            revert 0 0 -> index
            send 3 -> index
            takeBack 3 -> index
            """);
        Script.run("then IllegalArgumentException", SetUp.TEN_PENDING + """
            erase 0 1 1 -> argument
            erase 0 2 1 -> argument
            wrap 0 2 1 4 -> argument
            mark 0 2 2 0 true -> argument
            rule 0 3 2 0 -> argument
            rule 0 0 1 0 -> argument
            rule 0 0 2 4 -> argument
            10 x comment 0 1
            comment 1 1 -> argument
            comment 1 0 -> argument
            """);
        Script.run("A call that throws an exception changes nothing", SetUp.FOUR_LETTERS + """
            copy 0 1 3
            comment 1 3
            type 1 3 9
            type 0 5 8
            send 0
            type 0 1 26 -> index
            type 0 0 0 -> state
            erase 0 2 1 -> argument
            erase 0 0 1 -> state
            split 0 0 -> state
            join 0 1 -> state
            wrap 0 1 2 4 -> state
            unwrap 0 0 -> state
            setType 0 0 4 -> state
            mark 0 0 7 0 false -> state
            copy 0 3 3 -> argument
            copy 0 3 8 -> index
            paste 1 3 -> state
            paste 0 8 -> index
            takeBack 0 -> state
            revert 0 5 -> index
            revert 1 4 -> index
            send 1 -> state
            receive 3 -> index
            comment 3 3 -> argument
            rule 1 0 64 1 -> state
            rule 5 2 64 0 -> state
            version 1 -> 401
            version 0 -> 500
            paste 0 1 -> 2
            doc 0 -> 1 100 104 100 104 108 112 132 0
            """);
    }
}
