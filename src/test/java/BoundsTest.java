import java.io.IOException;

/** Every sentence of the document that names a bound, with the values at both sides of it. */
public final class BoundsTest {
    public static void main(String[] args) throws IOException {
        Bounds b = new Bounds(new Check("BoundsTest"));
        FirstTermsBounds.all(b);
        ShadeTermsBounds.all(b);
        TariffTermsBounds.all(b);
        StallTermsBounds.all(b);
        ThingsBounds.all(b);
        RightsBounds.all(b);
        TapeBounds.all(b);
        StallsBounds.all(b);
        b.end();
    }
}
