/** For each promise: ordinary calls, the edges that the document names, and wrong calls. */
public final class PromisesTest {
    private PromisesTest() {
    }

    public static void main(String[] args) {
        newObject();
        rules();
        contents();
        typing();
        erasing();
        splitting();
        joining();
        wrapping();
        unwrapping();
        typesOfNodes();
        marking();
        copying();
        pasting();
        takingBack();
        reverting();
        sending();
        receiving();
        partners();
        losing();
        versions();
        building();
        documents();
        comments();
        Script.end();
    }

    private static void newObject() {
        Script.run("1 a new object", """
            doc 0 -> 1 0
            doc 1 -> 1 0
            doc 2 -> 1 0
            doc 3 -> 1 0
            version 0 -> 0
            version 1 -> 0
            version 2 -> 0
            lost 0 -> 0
            lost 1 -> 0
            lost 2 -> 0
            isBuilt -> true
            commentAt 0 -> index
            paste 0 1 -> state
            takeBack 0 -> state
            revert 0 0 -> index
            send 0 -> 0
            receive 0 -> 0
            """);
    }

    private static void rules() {
        Script.run("2 rule: arguments", """
            rule -1 0 2 0 -> index
            rule 6 0 2 0 -> index
            rule 6 3 1 4 -> index          # the index goes first
            rule 0 -1 2 0 -> argument
            rule 0 3 2 0 -> argument
            rule 0 0 -2 3 -> argument
            rule 0 0 1 3 -> argument
            rule 0 0 3 3 -> argument
            rule 0 0 127 3 -> argument
            rule 0 0 128 3 -> argument
            rule 0 0 2 -1 -> argument
            rule 0 0 2 4 -> argument
            rule 0 0 0 4 -> argument       # also for an element that is not there
            rule 5 2 126 3 -> -
            rule 5 2 0 0 -> -
            rule 0 0 2 0 -> -
            """);
        Script.run("2 rule: the first document stays valid", """
            rule 0 0 0 0 -> state          # nothing may be in the document then
            rule 0 0 4 3 -> state
            rule 0 1 2 0 -> state          # two nodes would have to be in it
            rule 0 1 2 1 -> -
            rule 1 0 64 0 -> state         # the paragraph is empty
            rule 1 0 64 3 -> state
            rule 1 0 64 1 -> -
            type 0 1 0 -> 3
            type 0 1 1 -> state            # the refused rules are not there, the last one is
            wrap 0 0 3 4 -> 5
            """);
        Script.run("2 rule: a refused rule leaves the former one", """
            rule 0 1 64 2 -> -
            rule 0 1 2 0 -> state
            type 0 2 0 -> 3
            type 0 2 1 -> 4
            takeBack 0 -> 1
            takeBack 0 -> 0
            rule 0 0 0 0 -> state
            split 0 1 -> 1
            """);
        Script.run("2 rule: no step is pending or confirmed", """
            type 0 1 0 -> 3
            rule 1 0 64 1 -> state
            takeBack 0 -> 0
            type 1 1 0 -> 3
            rule 1 0 64 1 -> state
            takeBack 1 -> 0
            type 2 1 0 -> 3
            rule 1 0 64 1 -> state
            rule 1 3 64 1 -> argument
            takeBack 2 -> 0
            rule 1 0 64 1 -> -
            type 2 1 0 -> 3
            send 2 -> 1
            rule 1 0 64 2 -> state
            type 2 1 0 -> state
            """);
    }

    /** Contents that fit rules of several elements. Characters stand in the document itself. */
    private static void contents() {
        Script.run("2 just one, any number, at least one", """
            rule 0 0 2 0 -> -
            rule 0 1 4 2 -> -
            rule 0 2 64 2 -> -
            rule 2 0 0 0 -> -
            type 0 2 0 -> 3
            type 0 2 1 -> 4
            split 0 1 -> state             # no second paragraph
            wrap 0 2 4 2 -> state          # a list is empty now
            doc 0 -> 1 0 104 100
            """);
        Script.run("2 at most one and at least one", """
            rule 0 0 0 0 -> state
            rule 0 1 2 2 -> -
            rule 0 0 64 1 -> -
            rule 0 2 64 2 -> -
            type 0 0 3 -> 3
            type 0 0 4 -> state            # a second one ahead of the paragraph
            type 0 3 5 -> 4
            type 0 4 6 -> 5
            erase 0 1 3 -> 3               # 112 120 124 is cut into one and any number
            doc 0 -> 112 120 124
            erase 0 0 3 -> 0
            size 0 -> 0
            around 0 0 -> 0
            token 0 0 -> index
            """);
        Script.run("2 the same kind in two elements", """
            rule 0 0 2 3 -> -
            rule 0 1 66 1 -> -
            rule 0 2 2 2 -> -
            type 0 2 0 -> 3
            type 0 3 1 -> state
            split 0 1 -> 1
            split 0 1 -> 1
            type 0 6 2 -> state
            erase 0 6 7 -> 6
            type 0 2 7 -> 7
            doc 0 -> 1 0 128 1 0 1 0
            """);
    }

    private static void typing() {
        Script.run("3 type", """
            type 0 1 0 -> 3
            type 0 1 25 -> 4
            type 0 3 7 -> 5
            doc 0 -> 1 200 100 128 0
            doc 1 -> 1 0
            type -1 1 0 -> index
            type 3 1 0 -> index
            type 0 -1 0 -> index
            type 0 6 0 -> index
            type 0 1 -1 -> index
            type 0 1 26 -> index
            type 0 0 0 -> state
            type 0 5 0 -> state
            version 0 -> 3
            """);
        Script.run("3 type: 10 pending", """
            type 0 1 0 -> 3
            type 0 1 0 -> 4
            type 0 1 0 -> 5
            type 0 1 0 -> 6
            type 0 1 0 -> 7
            type 0 1 0 -> 8
            type 0 1 0 -> 9
            type 0 1 0 -> 10
            type 0 1 0 -> 11
            type 0 1 0 -> 12
            type 0 1 0 -> state
            version 0 -> 10
            size 0 -> 12
            type 0 1 26 -> index
            """);
        // 2, 6, 14, 30, 60 tokens: pasted a few at a time
        Script.run("3 type: 60 tokens", """
            type 0 1 0 -> 3
            copy 0 0 3 -> 3
            paste 0 3 -> 3
            copy 0 0 6 -> 6
            paste 0 6 -> 6
            paste 0 6 -> 6
            copy 0 0 18 -> 18
            paste 0 0 -> 18
            paste 0 0 -> 18
            size 0 -> 54
            copy 0 0 3 -> 3
            paste 0 0 -> 3
            type 0 1 0 -> 58
            type 0 1 0 -> 59
            send 0 -> 9
            type 0 1 0 -> 60
            type 0 1 0 -> state
            split 0 1 -> state
            wrap 0 0 60 4 -> state
            paste 0 0 -> state
            setType 0 0 3 -> state
            mark 0 0 60 1 true -> 22
            size 0 -> 60
            erase 0 1 2 -> 59
            type 0 1 5 -> 60
            join 0 6 -> 1
            size 0 -> 58
            wrap 0 0 58 4 -> 60
            setType 0 0 5 -> 4
            unwrap 0 0 -> 5
            size 0 -> 58
            """);
    }

    private static void erasing() {
        Script.run("4 erase", """
            type 0 1 2 -> 3
            type 0 1 1 -> 4
            type 0 1 0 -> 5
            split 0 2 -> 1
            doc 0 -> 1 100 0 1 104 108 0
            erase 0 1 5 -> 3
            doc 0 -> 1 108 0
            erase 0 1 2 -> 2
            erase 0 0 2 -> state
            erase 0 0 1 -> state
            erase 0 1 2 -> state
            erase 3 0 1 -> index
            erase -1 1 0 -> index
            erase 0 -1 1 -> index
            erase 0 0 3 -> index
            erase 0 3 0 -> index
            erase 0 1 1 -> argument
            erase 0 2 1 -> argument
            erase 0 2 0 -> argument
            doc 0 -> 1 0
            version 0 -> 6
            """);
    }

    private static void splitting() {
        Script.run("5 split", """
            type 0 1 0 -> 3
            type 0 2 1 -> 4
            split 0 2 -> 1
            doc 0 -> 1 100 0 1 104 0
            wrap 0 0 6 4 -> 8
            split 0 4 -> 4
            doc 0 -> 4 1 100 0 0 4 1 104 0 0
            around 0 5 -> 0
            split 0 5 -> state             # in no node
            split 0 0 -> state
            split 0 10 -> state
            split 0 1 -> state             # the first quote would be empty
            split 0 11 -> index
            split 0 -1 -> index
            split 3 1 -> index
            split 0 2 -> 1
            """);
    }

    private static void joining() {
        Script.run("6 join", """
            split 0 1 -> 1
            type 0 1 0 -> 5
            type 0 4 1 -> 6
            join 0 3 -> 1
            doc 0 -> 1 100 104 0
            join 0 0 -> state
            join 0 1 -> state
            join 0 2 -> state
            join 0 4 -> state              # nothing behind
            join 0 5 -> index
            join 0 -1 -> index
            join 3 0 -> index
            """);
        Script.run("6 join: of two types", """
            split 0 1 -> 1
            wrap 0 2 4 4 -> 6
            doc 0 -> 1 0 4 1 0 0
            join 0 2 -> state              # the paragraph would hold a paragraph
            wrap 0 0 2 5 -> 8
            doc 0 -> 5 1 0 0 4 1 0 0
            join 0 4 -> 4                  # the type of the second one
            doc 0 -> 5 1 0 1 0 0
            join 0 5 -> state              # two that close
            join 0 1 -> state
            """);
    }

    private static void wrapping() {
        Script.run("7 wrap", """
            type 0 1 0 -> 3
            wrap 0 0 3 4 -> 5
            doc 0 -> 4 1 100 0 0
            wrap 0 1 4 3 -> state          # no item in a quote
            wrap 0 2 3 1 -> state
            wrap 0 0 5 5 -> state          # a section begins with a paragraph
            wrap 0 1 2 5 -> state
            wrap 0 0 5 0 -> index
            wrap 0 0 5 6 -> index
            wrap 0 5 0 0 -> index          # the index goes first
            wrap 0 0 6 4 -> index
            wrap 0 -1 5 4 -> index
            wrap 3 0 5 4 -> index
            wrap 0 0 0 4 -> argument
            wrap 0 5 0 4 -> argument
            wrap 0 0 5 4 -> state          # a quote holds no quote
            doc 0 -> 4 1 100 0 0
            """);
        Script.run("7 wrap: across a token that opens", """
            wrap 0 0 1 4 -> 4
            doc 0 -> 4 1 0 0
            wrap 0 1 3 4 -> state
            """);
        Script.run("7 wrap: a change with two ranges", """
            type 0 1 0 -> 3
            send 0 -> 1
            receive 1 -> 1
            receive 2 -> 1
            wrap 1 0 3 4 -> 5
            type 2 1 1 -> 4
            split 2 3 -> 1
            doc 2 -> 1 104 100 0 1 0
            send 2 -> 2
            receive 1 -> 2
            doc 1 -> 4 1 104 100 0 1 0 0
            send 1 -> 1
            receive 2 -> 1
            erase 2 1 7 -> state
            receive 0 -> 3
            revert 0 3 -> 6
            doc 0 -> 1 104 100 0 1 0
            """);
    }

    private static void unwrapping() {
        Script.run("8 unwrap", """
            type 0 1 0 -> 3
            wrap 0 0 3 4 -> 5
            unwrap 0 1 -> state            # a character may not be in a quote
            unwrap 0 2 -> state            # no node is opened there
            unwrap 0 3 -> state
            unwrap 0 5 -> state
            unwrap 0 6 -> index
            unwrap 0 -1 -> index
            unwrap 3 0 -> index
            unwrap 0 0 -> 4
            doc 0 -> 1 100 0
            unwrap 0 0 -> state
            """);
        Script.run("8 unwrap: the token that closes it", """
            split 0 1 -> 1
            wrap 0 0 2 5 -> 6
            wrap 0 4 6 5 -> 8
            unwrap 0 0 -> 5
            doc 0 -> 1 0 5 1 0 0
            send 0 -> 4
            receive 1 -> 4
            unwrap 1 2 -> 5
            doc 1 -> 1 0 1 0
            type 0 4 3 -> 7
            send 0 -> 1
            receive 1 -> 1
            doc 1 -> 1 0 1 112 0
            """);
    }

    private static void typesOfNodes() {
        Script.run("9 setType", """
            wrap 0 0 2 4 -> 4
            setType 0 0 5 -> 4
            doc 0 -> 5 1 0 0
            setType 0 0 5 -> state         # it has this type
            setType 0 0 2 -> state         # no item in it
            setType 0 1 4 -> state
            setType 0 2 1 -> state         # no node is opened there
            setType 0 4 1 -> state
            setType 0 5 1 -> index
            setType 0 -1 1 -> index
            setType 0 0 0 -> index
            setType 0 0 6 -> index
            setType 3 0 1 -> index
            setType 0 0 4 -> 5
            version 0 -> 3
            """);
    }

    private static void marking() {
        Script.run("10 mark", """
            type 0 1 0 -> 3
            type 0 2 1 -> 4
            split 0 2 -> 1
            mark 0 0 6 0 true -> 2
            doc 0 -> 1 101 0 1 105 0
            mark 0 0 6 0 true -> state     # nothing changes
            mark 0 2 4 1 true -> state     # no character
            mark 0 4 6 1 true -> 1
            doc 0 -> 1 101 0 1 107 0
            mark 0 1 5 1 true -> 2         # one of two changes
            mark 0 1 5 0 false -> 2
            doc 0 -> 1 102 0 1 106 0
            mark 0 1 5 0 false -> state
            mark 0 1 5 2 true -> index
            mark 0 1 5 -1 true -> index
            mark 0 5 5 2 true -> index     # the index goes first
            mark 0 0 7 0 true -> index
            mark 0 -1 2 0 true -> index
            mark 3 0 1 0 true -> index
            mark 0 2 2 0 true -> argument
            mark 0 2 1 0 true -> argument
            version 0 -> 7
            """);
        Script.run("10 mark: 10 pending", """
            type 0 1 0 -> 3
            type 0 1 0 -> 4
            type 0 1 0 -> 5
            type 0 1 0 -> 6
            type 0 1 0 -> 7
            type 0 1 0 -> 8
            type 0 1 0 -> 9
            type 0 1 0 -> 10
            type 0 1 0 -> 11
            mark 0 1 2 0 true -> 1
            mark 0 2 3 0 true -> state
            doc 0 -> 1 101 100 100 100 100 100 100 100 100 0
            """);
    }

    private static void copying() {
        Script.run("11 copy", """
            type 0 1 0 -> 3
            type 0 2 1 -> 4
            split 0 2 -> 1
            wrap 0 0 6 4 -> 8
            doc 0 -> 4 1 100 0 1 104 0 0
            copy 0 2 3 -> 1
            copy 0 0 8 -> 8
            copy 0 0 1 -> 2                # one that closes is added
            copy 0 3 5 -> 4                # closes a paragraph and opens one
            copy 0 6 8 -> 4                # closes a paragraph and the quote around it
            copy 0 2 8 -> 8
            copy 0 0 9 -> index
            copy 0 9 9 -> index
            copy 0 -1 2 -> index
            copy 3 0 1 -> index
            copy 0 2 2 -> argument
            copy 0 2 1 -> argument
            version 0 -> 4
            """);
        Script.run("11 copy: the order of what is added", """
            wrap 0 0 2 5 -> 4
            type 0 2 0 -> 5
            split 0 3 -> 1
            doc 0 -> 5 1 100 0 1 0 0
            copy 0 3 7 -> 6
            paste 0 7 -> 6
            doc 0 -> 5 1 100 0 1 0 0 5 1 0 1 0 0
            copy 0 5 6 -> 2                # in place of what was copied
            copy 0 5 5 -> argument         # that changes nothing
            copy 1 0 1 -> 2                # nor does what another one copies
            paste 0 0 -> 2
            doc 0 -> 1 0 5 1 100 0 1 0 0 5 1 0 1 0 0
            """);
    }

    private static void pasting() {
        Script.run("12 paste", """
            paste 0 0 -> state             # nothing was copied
            paste 0 3 -> index
            paste 0 -1 -> index
            paste 3 0 -> index
            type 0 1 0 -> 3
            type 0 2 1 -> 4
            copy 0 1 3 -> 2
            paste 0 2 -> 2
            doc 0 -> 1 100 100 104 104 0
            paste 0 6 -> 4                 # within a paragraph
            doc 0 -> 1 100 100 104 104 0 1 100 104 0
            copy 0 0 2 -> 3
            paste 0 8 -> 1                 # what is in it
            doc 0 -> 1 100 100 104 104 0 1 100 100 104 0
            paste 0 0 -> 3                 # as it is
            version 0 -> 6
            """);
        Script.run("12 paste: what is in one node in another", """
            wrap 0 0 2 5 -> 4
            wrap 0 0 4 2 -> state
            type 0 2 5 -> 5
            copy 0 0 5 -> 5
            paste 0 2 -> 1                 # two nodes deep
            doc 0 -> 5 1 120 120 0 0
            paste 0 1 -> 3                 # one node deep
            doc 0 -> 5 1 120 0 1 120 120 0 0
            copy 0 1 8 -> 7
            paste 0 2 -> state             # two nodes, which fit in no way
            """);
        Script.run("12 paste: nothing at all is never put", """
            copy 0 0 2 -> 2
            paste 0 1 -> state
            paste 0 0 -> 2
            version 0 -> 1
            """);
        Script.run("12 paste: within a node of the first type that fits", """
            rule 0 0 126 2 -> -
            rule 1 0 0 0 -> -
            rule 2 0 64 2 -> -
            rule 4 0 64 2 -> -
            rule 5 0 52 2 -> -             # 2, 4 and 5
            rule 5 1 0 0 -> -
            type 0 2 4 -> 3
            copy 0 2 3 -> 1
            wrap 0 2 3 2 -> 5
            wrap 0 2 5 5 -> 7
            doc 0 -> 1 0 5 2 116 0 0
            paste 0 3 -> 3
            doc 0 -> 1 0 5 2 116 0 2 116 0 0
            paste 0 1 -> state             # in none in a paragraph
            paste 0 0 -> 1
            """);
        Script.run("12 paste: within a node of the type 5", """
            rule 0 0 126 2 -> -
            rule 1 0 0 0 -> -
            rule 2 0 32 2 -> -
            rule 5 0 64 2 -> -
            rule 5 1 0 0 -> -
            type 0 2 4 -> 3
            copy 0 2 3 -> 1
            wrap 0 2 3 5 -> 5
            wrap 0 2 5 2 -> 7
            paste 0 6 -> 3
            doc 0 -> 1 0 2 5 116 0 5 116 0 0
            """);
        Script.run("12 paste: an empty node within another one", """
            rule 0 0 50 2 -> -             # 1, 4 and 5
            rule 4 0 32 2 -> -
            rule 5 0 2 2 -> -
            copy 0 0 2 -> 2
            wrap 0 0 2 5 -> 4
            wrap 0 0 4 4 -> 6
            paste 0 1 -> 4
            doc 0 -> 4 5 1 0 0 5 1 0 0 0
            """);
        Script.run("12 paste: 10 pending", """
            copy 0 0 2 -> 2
            paste 0 0 -> 2
            paste 0 0 -> 2
            paste 0 0 -> 2
            paste 0 0 -> 2
            paste 0 0 -> 2
            paste 0 0 -> 2
            paste 0 0 -> 2
            paste 0 0 -> 2
            paste 0 0 -> 2
            paste 0 0 -> 2
            paste 0 0 -> state
            size 0 -> 22
            """);
    }

    private static void takingBack() {
        Script.run("13 takeBack", """
            type 0 1 0 -> 3
            mark 0 1 2 0 true -> 1
            type 0 1 1 -> 4
            mark 0 1 3 0 true -> 2
            doc 0 -> 1 105 101 0
            takeBack 0 -> 3                # as if it had not been made: only one mark goes
            doc 0 -> 1 104 101 0
            copy 0 1 2 -> 1
            takeBack 0 -> 2
            takeBack 0 -> 1
            doc 0 -> 1 100 0
            paste 0 1 -> 1                 # what was copied stays
            doc 0 -> 1 104 100 0
            send 0 -> 2
            takeBack 0 -> state
            takeBack 3 -> index
            takeBack -1 -> index
            """);
        Script.run("13 takeBack: after receiving, with lost steps", """
            type 0 1 0 -> 3
            type 0 2 1 -> 4
            send 0 -> 2
            receive 1 -> 2
            receive 2 -> 2
            type 1 3 6 -> 5
            erase 1 1 3 -> 3
            send 1 -> 2
            type 2 2 9 -> 5
            type 2 1 8 -> 6
            receive 2 -> 2
            doc 2 -> 1 132 124 0
            version 2 -> 401
            lost 2 -> 1
            takeBack 2 -> 0
            doc 2 -> 1 124 0
            lost 2 -> 1
            """);
    }

    private static void reverting() {
        Script.run("14 revert", """
            type 0 1 0 -> 3
            type 0 1 1 -> 4
            type 0 2 2 -> 5
            send 0 -> 3
            doc 0 -> 1 104 108 100 0
            revert 0 0 -> 4
            doc 0 -> 1 104 108 0
            revert 0 1 -> 3
            doc 0 -> 1 108 0
            revert 0 1 -> 3                # it takes nothing more, and puts nothing
            version 0 -> 303
            revert 0 3 -> index            # pending ones are not confirmed
            revert 0 -1 -> index
            revert 3 0 -> index
            revert 1 0 -> index            # it has received none
            receive 1 -> 3
            revert 1 2 -> 4
            doc 1 -> 1 104 100 0
            """);
        Script.run("14 revert: what was erased comes back", """
            type 0 1 0 -> 3
            type 0 2 1 -> 4
            mark 0 2 3 1 true -> 1
            erase 0 1 3 -> 2
            type 0 1 5 -> 3
            send 0 -> 5
            revert 0 3 -> 5
            doc 0 -> 1 120 100 106 0
            revert 0 2 -> state            # both positions are at one place: dropped
            """);
        Script.run("14 revert: a marking", """
            type 0 1 0 -> 3
            mark 0 1 2 0 true -> 1
            mark 0 1 2 0 false -> 1
            send 0 -> 3
            revert 0 1 -> 3                # it changes nothing, and is possible so
            version 0 -> 301
            revert 0 2 -> 3
            doc 0 -> 1 101 0
            type 0 2 1 -> 4
            type 0 1 2 -> 5
            revert 0 2 -> 5
            doc 0 -> 1 108 101 104 0
            """);
        Script.run("14 revert: dropped, not valid, 10 pending", """
            type 0 1 0 -> 3
            type 0 2 1 -> 4
            type 0 2 2 -> 5                # 100 108 104
            send 0 -> 3
            split 0 2 -> 1
            send 0 -> 1
            erase 0 1 6 -> 2
            revert 0 3 -> state            # lost in what was erased
            takeBack 0 -> 0
            revert 0 3 -> 5
            doc 0 -> 1 100 108 104 0
            send 0 -> 1
            wrap 0 0 5 4 -> 7
            send 0 -> 1
            split 0 3 -> 1
            split 0 4 -> 4
            doc 0 -> 4 1 100 0 0 4 1 108 104 0 0
            revert 0 5 -> state            # the two tokens in between would be left
            """);
        Script.run("14 revert: two ranges", """
            wrap 0 0 2 5 -> 4
            unwrap 0 0 -> 5
            send 0 -> 2
            type 0 1 7 -> 3
            revert 0 1 -> 5
            doc 0 -> 5 1 128 0 0
            """);
        Script.run("14 revert: through what the client has, no more", """
            type 0 1 0 -> 3
            send 0 -> 1
            receive 1 -> 1
            type 0 1 1 -> 4
            send 0 -> 1
            revert 1 1 -> index
            revert 1 0 -> 2
            doc 1 -> 1 0
            receive 1 -> 1
            doc 1 -> 1 104 0
            """);
        Script.run("14 revert: through pending steps, without partners", """
            type 0 1 0 -> 3
            erase 0 1 2 -> 2
            send 0 -> 2
            revert 0 1 -> 3
            doc 0 -> 1 100 0
            revert 0 0 -> 3                # what the erasing took is not that which came back
            doc 0 -> 1 100 0
            version 0 -> 202
            revert 0 1 -> 4
            revert 0 1 -> 5
            revert 0 1 -> 6
            revert 0 1 -> 7
            revert 0 1 -> 8
            revert 0 1 -> 9
            revert 0 1 -> 10
            revert 0 1 -> 11
            revert 0 1 -> state
            """);
    }

    private static void sending() {
        StringBuilder full = new StringBuilder();
        for (int i = 0; i < 5; i++) {
            full.append("type 0 1 0 -> 3\nerase 0 1 2 -> 2\n".repeat(5)).append("send 0 -> 10\n");
        }
        full.append("type 0 1 0 -> 3\nerase 0 1 2 -> 2\n".repeat(4)).append("send 0 -> 8\n");
        Script.run("15 send: 60 confirmed steps", full + """
            type 0 1 0 -> 3
            type 0 1 0 -> 4
            type 0 1 0 -> 5
            send 0 -> state                # 58 and 3
            version 0 -> 5803
            takeBack 0 -> 2
            send 0 -> 2
            version 0 -> 6000
            send 0 -> 0
            type 0 1 3 -> 5
            send 0 -> state
            version 0 -> 6001
            receive 1 -> 60
            doc 1 -> 1 100 100 0
            revert 1 59 -> 3
            revert 1 0 -> 3
            isBuilt -> true
            """);
        Script.run("15 send", """
            type 0 1 0 -> 3
            type 0 2 1 -> 4
            type 1 1 2 -> 3
            send 0 -> 2
            doc 3 -> 1 100 104 0
            send 0 -> 0
            send 1 -> state                # not the version of the authority
            send 2 -> state                # also with nothing to send
            version 1 -> 1
            receive 2 -> 2
            send 2 -> 0
            send 3 -> index
            send -1 -> index
            receive 1 -> 2
            send 1 -> 1
            doc 3 -> 1 100 104 108 0
            """);
    }

    private static void receiving() {
        Script.run("16 receive", """
            type 0 1 0 -> 3
            split 0 2 -> 1
            send 0 -> 2
            receive 1 -> 2
            receive 1 -> 0
            doc 1 -> 1 100 0 1 0
            version 1 -> 200
            receive 3 -> index
            receive -1 -> index
            """);
        Script.run("16 receive: at the same position behind what has come", """
            type 0 1 0 -> 3
            send 0 -> 1
            receive 1 -> 1
            receive 2 -> 1
            type 1 1 1 -> 4
            type 2 1 2 -> 4
            erase 2 2 3 -> 3
            send 1 -> 1
            receive 2 -> 1
            doc 2 -> 1 104 108 0
            version 2 -> 202
            """);
        Script.run("16 receive: with which the document would not be valid", """
            rule 1 0 64 1 -> -
            type 0 1 0 -> 3
            type 1 1 1 -> 3
            split 1 2 -> 1
            type 1 4 2 -> 6
            send 0 -> 1
            receive 1 -> 1
            doc 1 -> 1 100 0 1 108 0
            lost 1 -> 1
            version 1 -> 102
            """);
        Script.run("16 receive: a marking", """
            type 0 1 0 -> 3
            type 0 2 1 -> 4
            send 0 -> 2
            receive 1 -> 2
            receive 2 -> 2
            mark 1 1 3 0 true -> 2
            mark 1 1 2 1 true -> 1
            type 2 2 2 -> 5
            erase 2 1 2 -> 4
            send 2 -> 2
            receive 1 -> 2
            doc 1 -> 1 109 105 0           # the one on 100 alone is dropped
            lost 1 -> 1
            version 1 -> 401
            send 1 -> 1
            doc 3 -> 1 109 105 0
            isBuilt -> true
            """);
        Script.run("16 receive: one that lost its place, and one that lost an end", """
            type 0 1 0 -> 3
            type 0 2 1 -> 4
            type 0 3 2 -> 5
            type 0 4 3 -> 6
            send 0 -> 4
            receive 1 -> 4
            receive 2 -> 4
            erase 1 2 4 -> 4
            send 1 -> 1
            erase 2 3 5 -> 4               # its start is lost, its end is not
            receive 2 -> 1
            doc 2 -> 1 100 0
            lost 2 -> 0
            takeBack 2 -> 0
            type 0 2 9 -> 7                # at the edge
            receive 0 -> 1
            doc 0 -> 1 100 136 112 0
            """);
    }

    private static void partners() {
        Script.run("16 receive: into what an own step put", """
            type 0 1 0 -> 3
            send 0 -> 1
            receive 1 -> 1
            type 1 2 1 -> 4
            type 1 3 2 -> 5
            type 1 3 3 -> 6
            mark 1 2 5 1 true -> 3
            type 0 1 9 -> 4
            send 0 -> 1
            receive 1 -> 1
            doc 1 -> 1 136 100 106 114 110 0
            version 1 -> 204
            """);
        Script.run("16 receive: in a slice that was pasted", """
            type 0 1 0 -> 3
            type 0 2 1 -> 4
            send 0 -> 2
            receive 1 -> 2
            copy 1 1 3 -> 2
            paste 1 2 -> 2
            type 1 3 5 -> 7
            erase 1 2 4 -> 5
            doc 1 -> 1 100 104 104 0
            erase 0 2 3 -> 3
            type 0 2 7 -> 4
            send 0 -> 2
            receive 1 -> 2
            doc 1 -> 1 100 128 104 0
            lost 1 -> 0
            version 1 -> 403
            """);
        Script.run("16 receive: the partner is lost with its step", """
            type 0 1 0 -> 3
            type 0 2 1 -> 4
            type 0 3 2 -> 5
            send 0 -> 3
            receive 1 -> 3
            type 1 2 5 -> 6
            type 1 2 6 -> 7
            type 1 5 7 -> 8
            erase 0 1 4 -> 2
            send 0 -> 1
            receive 1 -> 1
            doc 1 -> 1 0
            lost 1 -> 3
            """);
    }

    private static void losing() {
        Script.run("17 lost", """
            type 0 1 0 -> 3
            type 0 2 1 -> 4
            send 0 -> 2
            receive 1 -> 2
            receive 2 -> 2
            type 1 2 2 -> 5
            type 2 2 3 -> 5
            type 2 2 4 -> 6
            erase 0 1 3 -> 2
            send 0 -> 1
            lost 1 -> 0
            receive 1 -> 1
            receive 2 -> 1
            lost 0 -> 0
            lost 1 -> 1
            lost 2 -> 2
            type 0 1 0 -> 3
            type 0 2 1 -> 4
            send 0 -> 2
            receive 2 -> 2
            type 2 2 3 -> 5
            erase 0 1 3 -> 2
            send 0 -> 1
            receive 2 -> 1
            lost 2 -> 3                    # in all receiving
            lost 3 -> index
            lost -1 -> index
            """);
    }

    private static void versions() {
        Script.run("18 version", """
            type 0 1 0 -> 3
            version 0 -> 1
            type 0 1 0 -> 4
            send 0 -> 2
            version 0 -> 200
            type 0 1 0 -> 5
            version 0 -> 201
            version 1 -> 0
            type 1 1 0 -> 3
            receive 1 -> 2
            version 1 -> 201
            version 3 -> index
            version -1 -> index
            """);
    }

    private static void building() {
        Script.run("19 isBuilt", """
            isBuilt -> true
            type 0 1 0 -> 3
            isBuilt -> true
            mark 0 1 2 1 true -> 1
            split 0 1 -> 1
            wrap 0 0 2 5 -> 7
            send 0 -> 4
            isBuilt -> true
            doc 3 -> 5 1 0 0 1 102 0
            receive 1 -> 4
            unwrap 1 0 -> 5
            revert 1 1 -> 5
            erase 1 0 2 -> 3
            send 1 -> 3
            isBuilt -> true
            doc 3 -> 1 100 0
            revert 1 6 -> 5                # looking changes nothing of the log
            doc 1 -> 1 0 1 100 0
            """);
    }

    private static void documents() {
        Script.run("20 size, 21 token", """
            type 1 1 4 -> 3
            size 0 -> 2
            size 1 -> 3
            size 2 -> 2
            size 3 -> 2
            send 1 -> 1
            size 3 -> 3
            size 4 -> index
            size -1 -> index
            token 1 0 -> 1
            token 1 1 -> 116
            token 1 2 -> 0
            token 1 3 -> index
            token 1 -1 -> index
            token 3 1 -> 116
            token 0 2 -> index
            token 4 0 -> index
            token -1 0 -> index
            """);
        Script.run("22 around", """
            wrap 0 0 2 5 -> 4
            split 0 2 -> 1
            doc 0 -> 5 1 0 1 0 0
            around 0 0 -> 0
            around 0 1 -> 15
            around 0 2 -> 21
            around 0 3 -> 15
            around 0 4 -> 21
            around 0 5 -> 15
            around 0 6 -> 0
            around 0 7 -> index
            around 0 -1 -> index
            around 3 1 -> 11
            around 3 2 -> 0
            around 4 0 -> index
            around -1 0 -> index
            """);
    }

    private static void comments() {
        Script.run("23 comment", """
            comment 0 2 -> 0
            comment 0 2 -> 1
            comment 1 2 -> 2
            comment 1 1 -> argument
            comment 2 1 -> argument
            comment 0 3 -> index
            comment -1 1 -> index
            comment 3 0 -> index
            comment 0 1 -> 3
            type 0 1 0 -> 3
            comment 0 3 -> index           # not confirmed
            comment 0 1 -> 4
            comment 0 1 -> 5
            comment 0 1 -> 6
            comment 0 1 -> 7
            comment 0 1 -> 8
            comment 0 1 -> 9
            comment 0 1 -> state
            comment 1 1 -> argument
            commentAt 9 -> 1
            commentAt 10 -> index
            commentAt -1 -> index
            commentAt 2 -> 102
            """);
        Script.run("24 commentAt", """
            type 0 1 0 -> 3
            type 0 2 1 -> 4
            type 0 3 2 -> 5
            send 0 -> 3
            comment 1 2 -> 0
            comment 2 3 -> 1
            comment 1 4 -> 2
            type 0 2 5 -> 6                # behind the first one, ahead of the second one
            commentAt 0 -> 102
            commentAt 1 -> 203             # not before it is confirmed
            send 0 -> 1
            commentAt 0 -> 102
            commentAt 1 -> 304
            commentAt 2 -> 105
            erase 0 3 4 -> 5
            send 0 -> 1
            commentAt 1 -> -1
            commentAt 2 -> 104
            revert 0 4 -> 6
            send 0 -> 1
            commentAt 1 -> -1              # gone for good
            commentAt 2 -> 105
            mark 0 0 6 0 true -> 4
            send 0 -> 1
            commentAt 2 -> 105
            wrap 0 0 6 4 -> 8
            send 0 -> 1
            commentAt 2 -> 206
            commentAt 3 -> index
            comment 0 8 -> 3
            erase 0 2 4 -> 6
            send 0 -> 1
            commentAt 0 -> -1
            commentAt 2 -> 204
            commentAt 3 -> 6
            """);
    }
}
