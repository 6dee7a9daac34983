import java.util.List;

/** Every sentence of the document that names a bound has a test of its own; none of its sentences is left over. */
public final class BoundsTest {
    public static void main(String[] args) {
        AreaBounds.ask();
        LiftBounds.ask();
        PisteBounds.ask();
        GuestBounds.ask();
        WayBounds.ask();
        AccountBounds.ask();
        TextBounds.ask();
        HistoryBounds.ask();
        ExceptionBounds.ask();
        List<String> left = Doc.notAsked();
        left.forEach(sentence -> System.out.println("no test asks about: " + sentence));
        Check.due("sentences that no test asks about", 0, left::size);
        System.out.println(Doc.size() + " sentences");
        Check.end();
    }
}
