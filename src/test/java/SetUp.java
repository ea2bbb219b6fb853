/** Lines with which scripts of several tests begin. */
final class SetUp {
    /** Confirmed, and received by all: 1 100 104 108 112 0, version 4. */
    static final String FOUR_LETTERS = """
        type 0 1 3
        type 0 1 2
        type 0 1 1
        type 0 1 0
        send 0
        receive 1
        receive 2
        """;

    /** Confirmed, and received by all: 1 100 104 108 112 116 120 0, version 6. */
    static final String SIX_LETTERS = """
        type 0 1 5
        type 0 1 4
        """ + FOUR_LETTERS;

    /** 60 tokens of client 0, 20 times 1 100 0, with 6 pending steps. */
    static final String FULL_DOCUMENT = """
        type 0 1 0
        copy 0 0 3
        paste 0 0
        copy 0 0 6
        paste 0 0
        copy 0 0 12
        paste 0 0
        copy 0 0 24
        paste 0 0
        copy 0 0 12
        paste 0 0
        size 0 -> 60
        """;

    /** Rules by which each node holds whatever there is. */
    static final String LOOSE_RULES = """
        rule 0 0 126 2
        rule 1 0 126 2
        rule 2 0 126 2
        rule 3 0 126 2
        rule 4 0 126 2
        rule 5 0 126 2
        """;

    /** A pending step of client 0 ten times, the last ones of which leave the document as it is. */
    static final String TEN_PENDING = """
        type 0 1 0
        type 0 1 0
        4 x mark 0 1 2 0 true; mark 0 1 2 0 false
        version 0 -> 10
        """;

    private SetUp() {
    }
}
