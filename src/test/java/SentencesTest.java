/**
 * Each sentence of the document. Of those that name a boundary: what is taken last and refused first on either side of
 * a limit, which exception goes first, and that a refused call changes nothing.
 */
public final class SentencesTest {
    public static void main(String[] args) {
        EdgesOfPeoples.tests();
        EdgesOfStories.tests();
        EdgesOfMarks.tests();
        EdgesOfActs.tests();
        EdgesOfClaims.tests();
        EdgesOfNotices.tests();
        EdgesOfPayments.tests();
        PlainSentences.tests();
        Document.isQuotedWhole();
        Due.end();
    }
}
