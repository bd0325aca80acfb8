/** The edges that the document names, sentence by sentence: the face, the sections, the text format, and each promise. */
public final class EdgesTest {
    public static void main(String[] args) {
        EdgesOfFace.run();
        EdgesOfSections.run();
        EdgesOfTexts.run();
        EdgesOfQuestions.run();
        EdgesOfWhatIf.run();
        EdgesOfChanges.run();
        Sentences.finish();
        Check.finish();
    }
}
