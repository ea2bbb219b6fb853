/** For each promise: ordinary calls, the edges that the document names, and wrong calls. */
public final class PromisesTest {
    private PromisesTest() {
    }

    public static void main(String[] args) {
        newObject();
        Script.end();
    }

    private static void newObject() {
        Script.run("1 a new object", """
            doc 0 -> 1 0
            doc 1 -> 1 0
            doc 2 -> 1 0
            doc 3 -> 1 0
            version 0 -> 0
            version 2 -> 0
            lost 1 -> 0
            isBuilt -> true
            commentAt 0 -> index
            paste 0 1 -> state
            """);
    }
}
