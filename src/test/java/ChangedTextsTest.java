/** Promises 4 and 5: a text without a fault, changed at every place in every way, has the same faults by both readings. */
public final class ChangedTextsTest {
    private static final String TEXT = "roads 2;word a moves 12 tires 4;word bb moves 3;comer p road 0 says a bb;comer q road 1 says bb;"
            + "worth moved-9+waited*(mood>50 or not behind=2);keeps many%5/behind;whim 20;draw 7;mood 9;";

    private final HatchLights lights = new HatchLights();
    private final PlainLights plain = new PlainLights();
    private final Due due = new Due();

    private void check(String text) {
        lights.end(0);
        plain.end(0);
        for (int[] n : Due.numbersOf(text)) {
            lights.feed(n[0], n[1], n[2], n[3], n[4]);
            plain.feed(n[0], n[1], n[2], n[3], n[4]);
        }
        due.is("end of " + text, lights.end(text.length()), plain.end(text.length()));
        due.is("crossing of " + text, lights.crossing(), plain.crossing());
        due.is("fault of " + text, lights.fault(0), plain.fault(0));
        due.is("place of the fault of " + text, lights.fault(1), plain.fault(1));
        due.is("units behind " + text, lights.about(14), plain.about(14));
    }

    private void changeAt(int at) {
        String ahead = TEXT.substring(0, at);
        for (char c = 0; c < 256; c++) {
            check(ahead + c + TEXT.substring(at));
            check(ahead + c + TEXT.substring(Math.min(at + 1, TEXT.length())));
        }
        for (int to = at; to <= TEXT.length(); to++) {
            check(ahead + TEXT.substring(to));
        }
    }

    public static void main(String[] args) {
        ChangedTextsTest test = new ChangedTextsTest();
        for (int at = 0; at <= TEXT.length(); at++) {
            test.changeAt(at);
        }
        test.due.end();
    }
}
