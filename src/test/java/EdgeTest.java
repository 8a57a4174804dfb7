/** Terms 1 to 6 and promises 1 to 36, sentence by sentence: each has a test that names it in the document's words. */
public final class EdgeTest {
    public static void main(String[] args) {
        Edge.readDocument();
        EdgesOfTexts.run();
        EdgesOfSayings.run();
        EdgesOfPeople.run();
        EdgesOfTrade.run();
        EdgesOfWords.run();
        EdgesOfGuesses.run();
        Edge.everySentenceIsNamed();
        Check.end("EdgeTest, " + Edge.howMany() + " sentences");
    }
}
