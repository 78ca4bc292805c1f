import java.nio.file.Path;

/**
 * Tests of single sentences of the document: each quotes its sentence and tells whose promise it is,
 * and fails if an answer in it isn't the one that is due.
 */
final class Edges {
    private final Document document;
    private final int[] passed = new int[Document.PROMISES + 1];
    private final int[] failed = new int[Document.PROMISES + 1];
    private String now = "";
    private int asked;
    private boolean holds;

    Edges() throws Exception {
        document = new Document(Path.of("../shared/DOC.md"));
    }

    /** One test: the sentence must stand in the document as it is quoted. */
    void edge(int promise, String sentence, Runnable test) {
        now = "promise " + promise + ", \"" + sentence + "\"";
        holds = true;
        asked = 0;
        if (!document.says(promise, sentence)) {
            fail("the document doesn't say so");
        }
        try {
            test.run();
        } catch (RuntimeException thrown) {
            fail("threw " + thrown);
        }
        if (asked == 0) {
            fail("nothing was asked");
        }
        (holds ? passed : failed)[promise]++;
    }

    void due(String call, long got, long want) {
        asked++;
        if (got != want) {
            fail(call + " answered " + got + ", due is " + want);
        }
    }

    private void fail(String what) {
        holds = false;
        System.out.println("EdgeTest: " + now + ": " + what);
    }

    /** Tells how many passed and failed of each promise; whether none failed and none is missing. */
    boolean end() {
        int allPassed = 0;
        int allFailed = 0;
        boolean each = true;
        for (int promise = 1; promise <= Document.PROMISES; promise++) {
            System.out.println("  promise " + promise + ": " + passed[promise] + " passed, " + failed[promise] + " failed");
            allPassed += passed[promise];
            allFailed += failed[promise];
            each &= passed[promise] + failed[promise] > 0;
        }
        for (String sentence : document.unquoted()) {
            System.out.println("EdgeTest: no test quotes of " + sentence);
            each = false;
        }
        System.out.println("EdgeTest: " + allPassed + " passed, " + allFailed + " failed");
        return each && allFailed == 0;
    }
}
