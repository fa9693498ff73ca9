/** Each sentence of the document that names a bound: the last case that it takes, the first that it doesn't. */
public final class BoundsTest {
    public static void main(String[] args) throws Exception {
        BoundsOfTown.all();
        BoundsOfDeeds.all();
        BoundsOfTexts.all();
        BoundsOfFaults.all();
        BoundsOfMap.all();
        BoundsOfNotes.all();
        BoundsOfCalls.all();
        Sentence.compareWithDocument();
        Check.finish("BoundsTest");
    }
}
