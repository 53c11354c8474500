import java.io.IOException;

/** Every sentence of the Terms and of the promises, in the document's order, at its boundaries. */
public final class SentencesTest {
    public static void main(String[] args) throws IOException {
        Sentences s = new Sentences();
        TownTerms.go(s);
        HourTerms.go(s);
        AheadTerms.go(s);
        DrawTerms.go(s);
        ShelfPromises.go(s);
        TownPromises.go(s);
        AheadPromises.go(s);
        HourPromises.go(s);
        PlacePromises.go(s);
        TruthPromises.go(s);
        s.end();
    }
}
