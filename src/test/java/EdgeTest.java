/** Sentence by sentence: the last value that is taken, the first that is not, what a refusal leaves. */
public final class EdgeTest {
    public static void main(String[] args) throws Exception {
        Sentence.begin();
        TextEdges.all();
        TickEdges.all();
        CallEdges.all();
        WaitEdges.all();
        AheadEdges.all();
        PastEdges.all();
        FullEdges.all();
        Sentence.end();
        Due.end();
    }
}
