/**
 * The sentences of "Terms" about maps that name a boundary case, each with a script of its own that
 * begins with its words. Comments show the map of one step: their first position has the side right,
 * their second one the side left.
 */
public final class MapsTest {
    private MapsTest() {
    }

    public static void main(String[] args) {
        aheadAndBehind();
        edgesOfRanges();
        rangesThatPutSomething();
        emptyRanges();
        twoRanges();
        markings();
        mappedRanges();
        droppedSteps();
        droppedMarkings();
        invertedMaps();
        partners();
        oddPartners();
        partnersAmongOthers();
        edgesOfPartners();
        rows();
        reverting();
        Script.end();
    }

    private static void aheadAndBehind() {
        Script.run("Ahead of the start a position stays", SetUp.SIX_LETTERS + """
            comment 2 8 -> 0
            comment 0 2 -> 1
            comment 0 8 -> 2
            erase 0 3 5
            send 0
            commentAt 0 -> 206
            commentAt 1 -> 2
            commentAt 2 -> 6
            """);
        Script.run("behind the end it moves by what is put less what is taken", SetUp.SIX_LETTERS + """
            comment 6 8 -> 0
            comment 0 6 -> 1
            erase 0 3 5
            send 0
            commentAt 0 -> 406
            commentAt 1 -> 4
            split 0 3
            send 0
            commentAt 0 -> 608
            commentAt 1 -> 6
            """);
        Script.run("behind both ranges it moves by both", SetUp.FOUR_LETTERS + """
            split 0 5
            send 0
            comment 6 8 -> 0
            comment 7 8 -> 1
            wrap 0 0 6 4
            send 0
            commentAt 0 -> 810             # from the edge of the second range
            commentAt 1 -> 910
            unwrap 0 0
            send 0
            commentAt 0 -> 608
            commentAt 1 -> 708
            """);
    }

    private static void edgesOfRanges() {
        Script.run("at the start of a range that takes something it becomes the beginning of what is put",
            """
            type 0 1 0
            wrap 0 0 3 4
            send 0
            comment 0 5 -> 0
            setType 0 0 5
            send 0
            commentAt 0 -> 5               # with the side right
            """);
        Script.run("at the start, with the side left", SetUp.LOOSE_RULES + """
            type 0 1 0
            wrap 0 0 3 4
            send 0
            comment 0 1 -> 0
            setType 0 1 2
            send 0
            commentAt 0 -> 1
            """);
        Script.run("at its end the end of that: with the side left", """
            type 0 1 0
            wrap 0 0 3 4
            send 0
            comment 0 1 -> 0
            setType 0 0 5
            send 0
            commentAt 0 -> 1
            """);
        Script.run("at its end the end of that: with the side right", """
            type 0 1 0
            wrap 0 0 3 4
            send 0
            comment 1 2 -> 0
            setType 0 0 5
            send 0
            commentAt 0 -> 102
            """);
        Script.run("between both it becomes the beginning of what is put", SetUp.SIX_LETTERS + """
            comment 4 8 -> 0
            comment 0 4 -> 1
            comment 3 8 -> 2
            comment 0 3 -> 3
            comment 5 8 -> 4
            comment 0 5 -> 5
            erase 0 3 5
            send 0
            commentAt 0 -> 306
            commentAt 1 -> 3
            commentAt 2 -> 306
            commentAt 3 -> 3
            commentAt 4 -> 306
            commentAt 5 -> 3
            """);
        Script.run("It is lost if it is between both, so neither at the start nor at the end",
            SetUp.SIX_LETTERS + """
            type 1 4 9
            type 2 3 8
            type 2 6 7                     # one was typed ahead of it: at 5
            erase 0 3 5
            send 0
            receive 1
            lost 1 -> 1
            version 1 -> 700
            receive 2
            lost 2 -> 0
            doc 2 -> 1 100 104 132 128 116 120 0
            """);
    }

    /**
     * Receiving makes a step of client 2 here that takes three tokens and puts one. Two clients
     * unwrap the same paragraph. What was typed behind it, and then in it, comes to one place, in
     * the order of the typing; so what was typed between both at last begins where the one begins
     * and ends where the other one ends.
     */
    private static final String THREE_FOR_ONE = """
        rule 0 0 126 2
        type 0 2 25
        send 0
        receive 1
        receive 2
        unwrap 1 0
        send 1
        type 2 2 23
        type 2 1 24
        unwrap 2 0
        type 2 0 0
        type 2 2 1
        doc 2 -> 100 196 104 192 200
        """;

    private static void rangesThatPutSomething() {
        Script.run("between both it becomes the beginning of what is put with the side left", THREE_FOR_ONE
            + """
            mark 2 2 4 0 true
            receive 2
            doc 2 -> 104 200               # both positions are at 0
            lost 2 -> 1
            version 2 -> 205
            """);
        Script.run("and the end of that with the side right", THREE_FOR_ONE + """
            mark 2 1 5 0 true
            receive 2
            doc 2 -> 104 201               # from 1 to 2
            lost 2 -> 0
            """);
        Script.run("it is lost if it is between both: in a range that puts something", THREE_FOR_ONE + """
            type 2 1 9
            receive 2
            doc 2 -> 104 200
            lost 2 -> 1
            """);
        Script.run("it takes what is there then: three tokens instead of none", THREE_FOR_ONE + """
            receive 2
            lost 2 -> 0
            takeBack 2
            doc 2 -> 192 100 196 200
            """);
    }

    private static void emptyRanges() {
        Script.run("at a range that takes nothing, the end of what is put with the side right",
            SetUp.FOUR_LETTERS + """
            copy 0 1 4
            comment 3 6 -> 0
            comment 2 3 -> 1
            paste 0 3 -> 3
            send 0
            commentAt 0 -> 609
            commentAt 1 -> 203
            """);
        Script.run("at a range that takes nothing, the beginning of what is put with the side left",
            SetUp.FOUR_LETTERS + """
            copy 0 1 4
            comment 0 3 -> 0
            comment 0 4 -> 1
            paste 0 3 -> 3
            send 0
            commentAt 0 -> 3
            commentAt 1 -> 7
            """);
        Script.run("at a range that takes nothing a position is not lost", SetUp.FOUR_LETTERS + """
            type 1 3 9
            split 0 3
            send 0
            receive 1
            lost 1 -> 0
            doc 1 -> 1 100 104 0 1 136 108 112 0
            """);
        Script.run("at the very beginning and the very end of a document", """
            comment 0 2 -> 0
            split 0 1
            copy 0 0 2
            send 0
            commentAt 0 -> 4
            paste 0 0
            send 0
            commentAt 0 -> 206
            paste 0 6
            send 0
            commentAt 0 -> 206
            """);
    }

    private static void twoRanges() {
        Script.run("the end of the first and the start of the second range: as at the first, side right", """
            split 0 1
            unwrap 0 0
            send 0
            comment 0 2 -> 0
            revert 0 1                     # both ranges are at 0, and each puts one token
            send 0
            doc 3 -> 1 0 1 0
            commentAt 0 -> 104
            """);
        Script.run("the end of the first and the start of the second range: as at the first, side left", """
            split 0 1
            unwrap 0 2
            send 0
            comment 0 2 -> 0
            revert 0 1
            send 0
            doc 3 -> 1 0 1 0
            commentAt 0 -> 2
            """);
        Script.run("between two ranges it moves by the first one", SetUp.FOUR_LETTERS + """
            comment 1 5 -> 0
            wrap 0 0 6 4
            send 0
            commentAt 0 -> 206
            unwrap 0 0
            send 0
            commentAt 0 -> 105
            """);
        Script.run("at the edges of both ranges", SetUp.FOUR_LETTERS + """
            comment 0 6 -> 0
            wrap 0 0 6 4
            send 0
            commentAt 0 -> 107
            comment 0 8 -> 1
            comment 0 7 -> 2
            comment 1 8 -> 3
            comment 7 8 -> 4
            comment 0 1 -> 5
            unwrap 0 0
            send 0
            commentAt 0 -> 6
            commentAt 1 -> 6
            commentAt 2 -> 6
            commentAt 3 -> 6
            commentAt 4 -> -1
            commentAt 5 -> -1
            """);
    }

    private static void markings() {
        Script.run("A marking maps each position to itself", SetUp.FOUR_LETTERS + """
            comment 2 4 -> 0
            comment 0 6 -> 1
            comment 3 4 -> 2
            type 1 3 9
            mark 0 2 4 0 true
            send 0
            commentAt 0 -> 204
            commentAt 1 -> 6
            commentAt 2 -> 304
            receive 1
            doc 1 -> 1 100 105 136 109 112 0
            lost 1 -> 0
            """);
    }

    private static void mappedRanges() {
        Script.run("each of its ranges from the start, mapped with the side right", SetUp.FOUR_LETTERS + """
            erase 1 2 4
            type 0 2 9
            send 0
            receive 1
            doc 1 -> 1 100 136 112 0
            """);
        Script.run("to the end, mapped with the side left", SetUp.FOUR_LETTERS + """
            erase 1 2 4
            type 0 4 9
            send 0
            receive 1
            doc 1 -> 1 100 136 112 0
            """);
        Script.run("but at least the former one", SetUp.FOUR_LETTERS + """
            type 1 3 8
            type 0 3 9
            send 0
            receive 1
            doc 1 -> 1 100 104 136 132 108 112 0
            """);
        Script.run("it takes what is there then", SetUp.FOUR_LETTERS + """
            erase 1 2 4
            type 0 3 9
            mark 0 2 3 1 true
            send 0
            receive 1
            doc 1 -> 1 100 112 0
            send 1
            revert 1 6
            doc 1 -> 1 100 106 136 108 112 0
            """);
        Script.run("it takes what is there then: nothing", SetUp.FOUR_LETTERS + """
            erase 1 2 4
            erase 0 2 4
            send 0
            receive 1
            version 1 -> 501
            send 1
            revert 1 5 -> 4
            doc 1 -> 1 100 112 0
            """);
        Script.run("and puts the same", SetUp.FOUR_LETTERS + """
            copy 1 1 3
            paste 1 5
            mark 0 1 3 0 true
            erase 0 1 2
            send 0
            receive 1
            doc 1 -> 1 105 108 112 100 104 0
            """);
    }

    private static void droppedSteps() {
        Script.run("If both start and end of a range are lost, the step is dropped", SetUp.FOUR_LETTERS + """
            erase 1 3 4
            type 2 3 9
            erase 0 2 5
            send 0
            receive 1
            version 1 -> 500
            lost 1 -> 1
            receive 2
            lost 2 -> 1
            """);
        Script.run("both: not if just the start is lost", SetUp.FOUR_LETTERS + """
            erase 1 3 5
            erase 0 2 4
            send 0
            receive 1
            doc 1 -> 1 100 0
            version 1 -> 501
            """);
        Script.run("both: not if just the end is lost", SetUp.FOUR_LETTERS + """
            erase 1 2 4
            erase 0 3 5
            send 0
            receive 1
            doc 1 -> 1 100 0
            version 1 -> 501
            """);
        Script.run("both: not if the start is at the start and just the end is lost", SetUp.FOUR_LETTERS + """
            erase 1 2 4
            erase 0 2 5
            send 0
            receive 1
            doc 1 -> 1 100 0
            version 1 -> 501
            lost 1 -> 0
            """);
        Script.run("both: not if the end is at the end and just the start is lost", SetUp.FOUR_LETTERS + """
            erase 1 3 5
            erase 0 2 5
            send 0
            receive 1
            version 1 -> 501
            lost 1 -> 0
            """);
        Script.run("both: not if the same tokens are taken", SetUp.FOUR_LETTERS + """
            erase 1 2 5
            erase 0 2 5
            send 0
            receive 1
            version 1 -> 501
            lost 1 -> 0
            """);
        Script.run("of a range: just the first one of two", SetUp.LOOSE_RULES + SetUp.FOUR_LETTERS + """
            wrap 1 3 5 2
            erase 0 2 4
            send 0
            receive 1
            lost 1 -> 1
            doc 1 -> 1 100 112 0
            """);
        Script.run("of a range: just the second one of two", SetUp.LOOSE_RULES + SetUp.FOUR_LETTERS + """
            wrap 1 1 3 2
            erase 0 2 4
            send 0
            receive 1
            lost 1 -> 1
            doc 1 -> 1 100 112 0
            """);
        Script.run("a start in one range of two and an end in the other", SetUp.LOOSE_RULES + """
            type 0 1 0
            type 0 2 1
            wrap 0 1 3 2
            send 0
            receive 1
            doc 1 -> 1 2 100 104 0 0
            erase 1 1 5                    # from the start of the one to the end of the other
            unwrap 0 1
            send 0
            receive 1
            doc 1 -> 1 0
            version 1 -> 401
            """);
        Script.run("ahead of the end of the first one: not at the end", SetUp.LOOSE_RULES + SetUp.FOUR_LETTERS
            + """
            wrap 1 2 4 2
            erase 0 2 4
            send 0
            receive 1
            lost 1 -> 0
            doc 1 -> 1 100 2 0 112 0
            version 1 -> 501
            """);
        Script.run("with which the document would not be valid: around nothing", """
            split 0 1
            send 0
            receive 1
            wrap 1 0 2 4
            erase 0 0 2
            send 0
            receive 1
            lost 1 -> 1
            doc 1 -> 1 0
            """);
    }

    private static void droppedMarkings() {
        Script.run("a marking is dropped if the second is not greater: both lost in one range",
            SetUp.FOUR_LETTERS + """
            mark 1 3 4 0 true
            erase 0 2 5
            send 0
            receive 1
            lost 1 -> 1
            version 1 -> 500
            """);
        Script.run("a marking is dropped if the second is not greater: neither is lost", SetUp.FOUR_LETTERS
            + """
            mark 1 2 4 0 true
            erase 0 2 4
            send 0
            receive 1
            lost 1 -> 1
            version 1 -> 500
            """);
        Script.run("whether they are lost or not: both are lost, but in two ranges", SetUp.SIX_LETTERS + """
            mark 1 3 6 0 true
            erase 2 3 6
            erase 0 5 7
            erase 0 2 4
            send 0
            receive 1
            lost 1 -> 0
            doc 1 -> 1 100 113 0
            receive 2
            lost 2 -> 1                    # a change is dropped by that
            doc 2 -> 1 100 112 0
            """);
        Script.run("a marking: its second position has the side left, its first one the side right",
            SetUp.FOUR_LETTERS + """
            mark 1 2 4 0 true
            type 0 4 8
            type 0 2 9
            send 0
            receive 1
            doc 1 -> 1 100 136 105 109 132 112 0
            """);
        Script.run("just if: not if the tokens are no characters any more", SetUp.FOUR_LETTERS + """
            mark 1 2 4 0 true
            split 0 3
            erase 0 2 3
            erase 0 4 5
            send 0
            receive 1
            lost 1 -> 0
            version 1 -> 701
            doc 1 -> 1 100 0 1 112 0
            """);
    }

    /** With nothing that comes a position goes through the inverse and through its partner alone. */
    private static void invertedMaps() {
        Script.run("the maps of the inverses: what was erased", SetUp.FOUR_LETTERS + """
            erase 1 2 4
            type 1 2 9
            mark 1 1 2 0 true
            mark 1 3 4 0 true
            doc 1 -> 1 101 136 113 0
            type 0 1 8
            send 0
            receive 1
            doc 1 -> 1 132 101 136 113 0
            """);
        Script.run("the maps of the inverses: at a place where tokens were taken and others came",
            SetUp.FOUR_LETTERS + """
            erase 1 2 4
            type 1 2 9
            type 0 3 8                     # amid what is erased
            send 0
            receive 1
            doc 1 -> 1 100 136 112 0
            version 1 -> 502
            """);
        Script.run("the maps of the inverses of two ranges", SetUp.FOUR_LETTERS + """
            wrap 1 0 6 4
            type 1 2 9
            type 1 7 8
            split 1 4
            type 0 1 7
            type 0 6 6
            send 0
            receive 1
            doc 1 -> 4 1 128 136 100 0 1 104 108 112 124 132 0 0
            version 1 -> 604
            lost 1 -> 0
            """);
        Script.run("the maps of the inverses of two ranges that took something", SetUp.LOOSE_RULES
            + SetUp.FOUR_LETTERS + """
            wrap 0 2 4 2
            send 0
            receive 1 -> 1
            unwrap 1 2
            type 1 2 9
            type 1 5 8
            doc 1 -> 1 100 136 104 108 132 112 0
            type 0 4 7
            send 0
            receive 1
            doc 1 -> 1 100 136 104 128 108 132 112 0
            lost 1 -> 0
            """);
    }

    private static void partners() {
        Script.run("Some maps have a partner: between the edges of what was put", SetUp.FOUR_LETTERS + """
            copy 1 1 4
            paste 1 5
            type 1 7 9
            doc 1 -> 1 100 104 108 112 100 104 136 108 0
            type 0 1 8
            send 0
            receive 1
            doc 1 -> 1 132 100 104 108 112 100 104 136 108 0
            lost 1 -> 0                    # it is not lost by that
            """);
        Script.run("as far from the beginning of what the partner puts as it was from the start",
            SetUp.FOUR_LETTERS + """
            copy 1 1 4
            paste 1 3
            erase 1 4 5
            mark 1 4 5 1 true
            doc 1 -> 1 100 104 100 110 108 112 0
            type 0 3 8
            erase 0 1 2
            send 0
            receive 1
            doc 1 -> 1 104 132 100 110 108 112 0
            """);
        Script.run("what the partner puts in that range: the second one", SetUp.LOOSE_RULES
            + SetUp.FOUR_LETTERS + """
            wrap 1 2 4 2
            type 1 5 9                     # at the start of what the second range put
            type 0 4 8
            send 0
            receive 1
            doc 1 -> 1 100 2 104 108 132 136 0 112 0
            """);
        Script.run("in that range: the partner's second range is moved by its first one", SetUp.LOOSE_RULES
            + SetUp.FOUR_LETTERS + """
            wrap 1 2 4 2
            unwrap 1 2
            wrap 1 2 4 3
            mark 1 3 5 0 true
            type 1 5 9
            type 0 1 8
            erase 0 3 4
            send 0
            receive 1
            doc 1 -> 1 132 100 3 109 136 0 112 0
            lost 1 -> 0
            """);
        Script.run("the row goes on behind the partner", SetUp.FOUR_LETTERS + """
            type 1 2 9
            type 1 2 8
            mark 1 3 4 0 true
            type 0 1 7
            send 0
            receive 1
            doc 1 -> 1 128 100 132 137 104 108 112 0
            """);
        Script.run("a partner is there just for a step that is kept", SetUp.FOUR_LETTERS + """
            copy 1 1 4
            paste 1 3
            type 1 4 9
            type 1 9 8
            erase 0 2 4
            send 0
            receive 1
            lost 1 -> 2
            doc 1 -> 1 100 112 132 0
            """);
    }

    private static void oddPartners() {
        Script.run("the end of the first and the start of the second range: as at the first, with partners", """
            rule 0 0 126 2 -> -
            rule 2 0 64 2 -> -
            type 0 2 0 -> 3
            send 0 -> 1
            receive 1 -> 1
            wrap 1 2 3 2 -> 5
            type 1 5 9 -> 6
            doc 1 -> 1 0 2 100 0 136
            erase 0 2 3 -> 2
            send 0 -> 1
            receive 1 -> 1
            # Behind the wrapped node its start comes to 3, at the first of two ranges at 2, and its
            # end comes to 4 by the partner; so it takes the token that closes the node.
            doc 1 -> 1 0 2 0
            version 1 -> 201
            lost 1 -> 1
            """);
        Script.run("or its second range would begin ahead of the end of the first one, the step is dropped", """
            rule 0 0 126 2 -> -
            rule 2 0 64 2 -> -
            type 0 2 0 -> 3
            type 0 3 1 -> 4
            send 0 -> 2
            receive 1 -> 2
            wrap 1 2 3 2 -> 6
            wrap 1 5 6 2 -> 8
            doc 1 -> 1 0 2 100 0 2 104 0
            erase 0 2 3 -> 3
            erase 0 2 3 -> 2
            send 0 -> 2
            receive 1 -> 2
            doc 1 -> 1 0 2 0
            lost 1 -> 1
            """);
        Script.run("Its pending steps are mapped: also if nothing has come", """
            rule 0 0 126 2
            rule 2 0 64 2
            type 0 2 0
            send 0
            receive 1
            wrap 1 2 3 2
            erase 0 2 3
            send 0
            receive 1 -> 1
            type 1 4 9
            doc 1 -> 1 0 2 0 136
            # Both ranges of the wrapping are at 2 now. The start of the typing comes to the end of
            # what the first one puts, its end to the end of what the second one puts, and the token
            # that closes the node, which is between both, is not to be taken.
            receive 1 -> 0
            doc 1 -> 1 0 2 0
            lost 1 -> 1
            version 1 -> 201
            """);
        Script.run("Its pending steps are mapped: if nothing has come, behind an empty node that came back", """
            split 0 1
            unwrap 0 2
            send 0
            revert 0 1 -> 4                # it puts 1 and 0, both at 2
            copy 0 0 2
            paste 0 4 -> 2
            # The start of the pasting comes to 3, its end stays at 4, as in the run above.
            receive 0 -> 0
            doc 0 -> 1 0 1 0
            lost 0 -> 1
            version 0 -> 201
            """);
        Script.run("Its pending steps are mapped: if nothing has come, ahead of such a node nothing changes", """
            split 0 1
            unwrap 0 2
            send 0
            revert 0 1 -> 4
            copy 0 0 2
            paste 0 2 -> 2
            type 0 1 3
            receive 0 -> 0
            doc 0 -> 1 112 0 1 0 1 0
            lost 0 -> 0
            version 0 -> 203
            """);
    }

    private static void partnersAmongOthers() {
        Script.run("it is not lost by that: with a step between both", SetUp.FOUR_LETTERS + """
            copy 1 1 4
            paste 1 5
            type 1 1 8
            type 1 8 9
            doc 1 -> 1 132 100 104 108 112 100 104 136 108 0
            type 0 1 7
            send 0
            receive 1
            doc 1 -> 1 128 132 100 104 108 112 100 104 136 108 0
            lost 1 -> 0
            """);
        Script.run("a position comes into a range: not if it came into one of another map", SetUp.FOUR_LETTERS
            + """
            type 1 1 9
            type 1 4 8                     # this one is dropped
            erase 1 4 7                    # this one begins at what it put
            doc 1 -> 1 136 100 104 0
            erase 0 2 4
            send 0
            receive 1
            doc 1 -> 1 136 100 0
            lost 1 -> 1
            version 1 -> 502
            """);
    }

    /** A position comes into a range of a map with a partner: at its edges the side decides. */
    private static void edgesOfPartners() {
        Script.run("its start included: with the side right", SetUp.FOUR_LETTERS + """
            type 1 2 9
            mark 1 2 3 0 true
            type 0 2 8
            send 0
            receive 1
            doc 1 -> 1 100 132 137 104 108 112 0
            lost 1 -> 0
            """);
        Script.run("but is not at its start with the side left", SetUp.FOUR_LETTERS + """
            type 1 2 9
            mark 1 1 2 0 true
            type 0 2 8
            send 0
            receive 1
            doc 1 -> 1 101 132 136 104 108 112 0
            """);
        Script.run("its end included: with the side left", SetUp.FOUR_LETTERS + """
            type 1 2 9
            mark 1 1 3 0 true
            type 0 2 8
            send 0
            receive 1
            doc 1 -> 1 101 133 137 104 108 112 0
            """);
        Script.run("nor at its end with the side right", """
            type 0 1 0
            wrap 0 0 3 4
            send 0
            receive 1
            setType 1 0 5
            copy 1 1 4
            paste 1 1
            doc 1 -> 5 1 100 0 1 100 0 0
            copy 0 1 2
            paste 0 1
            doc 0 -> 4 1 0 1 100 0 0
            send 0
            receive 1
            doc 1 -> 5 1 0 1 100 0 1 100 0 0
            """);
        Script.run("at a range of the inverse that takes nothing: at its start with the side left",
            SetUp.FOUR_LETTERS + """
            erase 1 2 4
            mark 1 1 2 0 true
            type 0 2 8
            send 0
            receive 1
            doc 1 -> 1 101 132 112 0
            """);
        Script.run("at a range of the inverse that takes nothing: at its end with the side right",
            SetUp.FOUR_LETTERS + """
            erase 1 2 4
            mark 1 2 3 0 true
            type 0 4 8
            send 0
            receive 1
            doc 1 -> 1 100 132 113 0
            """);
    }

    private static void rows() {
        Script.run("A position is lost if it is lost in one of the maps that it goes through otherwise",
            SetUp.FOUR_LETTERS + """
            type 1 3 9
            erase 0 2 4
            type 0 1 8
            type 0 3 7
            send 0
            receive 1
            lost 1 -> 1
            doc 1 -> 1 132 100 128 112 0
            """);
        Script.run("The first pending step is mapped from the first confirmed step on", SetUp.FOUR_LETTERS + """
            type 1 3 9
            type 0 3 8
            type 0 1 7
            send 0
            receive 1
            doc 1 -> 1 128 100 104 132 136 108 112 0
            """);
        Script.run("each later one begins with the inverse of the one before it", SetUp.FOUR_LETTERS + """
            type 1 1 9
            type 1 4 8
            type 1 6 7
            doc 1 -> 1 136 100 104 132 108 128 112 0
            erase 0 1 2
            send 0
            receive 1
            doc 1 -> 1 136 104 132 108 128 112 0
            """);
        Script.run("the confirmed steps that it receives: the very first one", """
            type 1 1 9
            type 0 1 8
            send 0
            receive 1
            doc 1 -> 1 132 136 0
            """);
        Script.run("just the confirmed steps that it receives", SetUp.FOUR_LETTERS + """
            type 0 1 9
            send 0
            receive 1
            type 1 5 8
            type 0 1 7
            send 0
            receive 1 -> 1
            doc 1 -> 1 128 136 100 104 108 132 112 0
            receive 1 -> 0
            doc 1 -> 1 128 136 100 104 108 132 112 0
            """);
        Script.run("pending steps are mapped anew each time", SetUp.FOUR_LETTERS + """
            type 1 3 9
            mark 1 3 4 1 true
            type 0 3 8
            send 0
            receive 1
            type 0 4 7
            send 0
            receive 1
            doc 1 -> 1 100 104 132 128 138 108 112 0
            erase 0 1 7
            send 0
            receive 1
            doc 1 -> 1 0
            lost 1 -> 2
            version 1 -> 700
            """);
    }

    private static void reverting() {
        Script.run("mapped through all later ones, confirmed and pending, without partners",
            SetUp.FOUR_LETTERS + """
            erase 0 2 4
            send 0
            revert 0 4
            doc 0 -> 1 100 104 108 112 0
            revert 0 4
            doc 0 -> 1 100 104 108 104 108 112 0
            """);
        Script.run("without partners: what came back is not what was typed", SetUp.FOUR_LETTERS + """
            type 0 3 9
            erase 0 2 5
            send 0
            revert 0 5
            revert 0 4 -> state            # it was lost in what was erased
            doc 0 -> 1 100 104 136 108 112 0
            """);
        Script.run("if the inverse is dropped", SetUp.FOUR_LETTERS + """
            type 0 3 9
            erase 0 3 4
            mark 0 2 3 0 true
            send 0
            revert 0 4 -> 6                # at both edges of what was erased it is not lost
            version 0 -> 701
            erase 0 2 3
            revert 0 6 -> state
            takeBack 0
            revert 0 6 -> 6
            doc 0 -> 1 100 104 108 112 0
            """);
        Script.run("A marking that changes nothing is possible so", SetUp.FOUR_LETTERS + """
            mark 0 2 3 0 true
            mark 0 2 3 0 false
            send 0
            mark 0 2 3 0 false -> state
            revert 0 4 -> 6
            version 0 -> 601
            send 0 -> 1
            revert 0 6 -> 6
            doc 0 -> 1 100 105 108 112 0
            """);
    }
}
