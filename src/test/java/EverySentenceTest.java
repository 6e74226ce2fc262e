import java.util.List;

/** Each sentence of the terms, constants and promises, and that of the 512 calls, stands above rows of a test. */
public final class EverySentenceTest {
    private static final Check check = new Check();

    public static void main(String[] args) {
        DebtsTest.main(args);
        ActsTest.main(args);
        HeldTest.main(args);
        VotesTest.main(args);
        EstatesTest.main(args);
        ImagesTest.main(args);
        List<String> places = Doc.places();
        check.due("terms, constants, promises, calls", places.size(), 6 + 1 + 39 + 1);
        for (String place : places) {
            String left = Doc.unquoted(place);
            check.due(place + " is in no test: " + left, left.isEmpty(), true);
        }
        check.finish();
    }
}
