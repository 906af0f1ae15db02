/** Each sentence of the Terms, of the sections 1 to 5 and of the promises has a test that quotes it. */
final class SentencesTest {
    private static final int PROMISES = 37;

    public static void main(String[] args) {
        FountEdgeTest.main(args);
        TextEdgeTest.main(args);
        StickEdgeTest.main(args);
        LineEdgeTest.main(args);
        PageEdgeTest.main(args);
        FormeEdgeTest.main(args);
        ActEdgeTest.main(args);
        Due.by("each sentence has a test");
        if (Doc.isThere()) {
            isQuoted(Doc.TERMS);
            for (int promise = 1; promise <= PROMISES; promise++) {
                isQuoted(Doc.promise(promise));
            }
        }
        Due.end();
    }

    private static void isQuoted(String heading) {
        Due.isTrue(heading + " is there", !Doc.section(heading).isEmpty());
        String left = Doc.unquoted(heading);
        Due.isTrue("nothing of " + heading + " is left without a test: " + left, left.isEmpty());
    }
}
