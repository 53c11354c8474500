import java.io.IOException;

/** Every sentence of the document, in its order, at its boundaries. */
public final class SentencesTest {
    public static void main(String[] args) throws IOException {
        Sentences s = new Sentences();
        Opening.go(s);
        TownTerms.go(s);
        HourTerms.go(s);
        AheadTerms.go(s);
        DrawTerms.go(s);
        ShelfPromises.go(s);
        TownPromises.go(s);
        AheadPromises.go(s);
        HourPromises.go(s);
        PlacePromises.go(s);
        TruthPromises.go(s);
        NotPromised.go(s);
        s.end();
    }
}
