/** Counts answers that are not as due, and tells texts. */
final class Due {
    private int wrong = 0;
    private int right = 0;

    void is(String what, long got, long want) {
        if (got == want) {
            right++;
        } else {
            wrong++;
            System.out.println(what + " answered " + got + ", due is " + want);
        }
    }

    void is(String what, boolean got, boolean want) {
        is(what, got ? 1 : 0, want ? 1 : 0);
    }

    /** Puts a text on the tape, behind what is there. */
    static void feed(HatchLights x, String text) {
        int before = x.about(13);
        String padded = text + " ".repeat((20 - text.length() % 20) % 20);
        for (int i = 0; i < padded.length(); i += 20) {
            int[] n = new int[5];
            for (int j = 0; j < 20; j++) {
                n[j / 4] = n[j / 4] << 8 | padded.charAt(i + j) & 255;
            }
            x.feed(n[0], n[1], n[2], n[3], n[4]);
        }
        x.end(before + text.length());
    }

    /** A new object whose crossing is as told. */
    HatchLights told(String text) {
        HatchLights x = new HatchLights();
        feed(x, text);
        x.crossing();
        is("fault of " + text, x.fault(0), 0);
        return x;
    }

    /** That the text has this fault at this place. */
    void fault(String text, int fault, int place) {
        HatchLights x = new HatchLights();
        feed(x, text);
        is("crossing of " + text, x.crossing(), -1);
        is("fault of " + text, x.fault(0), fault);
        is("place of the fault of " + text, x.fault(1), place);
    }

    void end() {
        System.out.println(right + " answers as due, " + wrong + " not");
        if (wrong > 0) {
            System.exit(1);
        }
    }
}
