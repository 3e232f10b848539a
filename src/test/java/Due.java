/** Counts answers that are not as due, and tells texts. */
final class Due {
    private int wrong = 0;
    private int right = 0;

    void is(String what, long got, long want) {
        if (got == want) {
            right++;
        } else {
            wrong++;
            System.out.println(what + " answered " + got + ", due is " + want);
        }
    }

    void is(String what, boolean got, boolean want) {
        is(what, got ? 1 : 0, want ? 1 : 0);
    }

    /** A text as the numbers that feed() takes, five at a time; blanks behind it. */
    static int[][] numbersOf(String text) {
        int[][] numbers = new int[(text.length() + 19) / 20][5];
        for (int i = 0; i < 20 * numbers.length; i++) {
            int sign = i < text.length() ? text.charAt(i) & 255 : ' ';
            numbers[i / 20][i % 20 / 4] = numbers[i / 20][i % 20 / 4] << 8 | sign;
        }
        return numbers;
    }

    /** Puts a text on the tape, behind what is there. */
    static void feed(HatchLights x, String text) {
        int before = x.about(13);
        for (int[] n : numbersOf(text)) {
            x.feed(n[0], n[1], n[2], n[3], n[4]);
        }
        x.end(before + text.length());
    }

    /** A new object whose crossing is as told. */
    HatchLights told(String text) {
        HatchLights x = new HatchLights();
        feed(x, text);
        x.crossing();
        is("fault of " + text, x.fault(0), 0);
        return x;
    }

    /** That the text has this fault at this place. */
    void fault(String text, int fault, int place) {
        HatchLights x = new HatchLights();
        feed(x, text);
        is("crossing of " + text, x.crossing(), -1);
        is("fault of " + text, x.fault(0), fault);
        is("place of the fault of " + text, x.fault(1), place);
    }

    void end() {
        System.out.println(right + " answers as due, " + wrong + " not");
        if (wrong > 0) {
            System.exit(1);
        }
    }
}
