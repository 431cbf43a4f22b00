/** What the tests share: texts put on the tape, answers compared, the exit code at the end. */
final class Check {
    private int wrong = 0;
    private int asked = 0;

    static void feed(LaterPrints x, String text) {
        for (int i = 0; i < text.length(); i += 20) {
            int[] five = new int[5];
            for (int k = 0; k < 20; k++) {
                int sign = i + k < text.length() ? text.charAt(i + k) & 255 : 0;
                five[k / 4] = five[k / 4] << 8 | sign;
            }
            x.feed(five[0], five[1], five[2], five[3], five[4]);
        }
    }

    static int scene(LaterPrints x, String text) {
        feed(x, text);
        return x.scene(text.length());
    }

    static int runs(LaterPrints x, String text) {
        feed(x, text);
        return x.runs(text.length());
    }

    /** A new object with a scene that must be taken. */
    LaterPrints with(String text) {
        LaterPrints x = new LaterPrints();
        scene(x, text);
        if (x.status() != 0) {
            due("a scene without fault: " + text + " has " + x.fault(0) + " at " + x.fault(1), x.status(), 0);
        }
        return x;
    }

    void due(String what, long got, long want) {
        asked++;
        if (got != want) {
            wrong++;
            System.out.println(what + " answered " + got + ", due is " + want);
        }
    }

    void due(String what, boolean got, boolean want) {
        due(what, got ? 1 : 0, want ? 1 : 0);
    }

    /** An answer with STATUS 0. */
    void good(String what, LaterPrints x, long got, long want) {
        due(what, got, want);
        due(what + ", status", x.status(), 0);
    }

    void good(String what, LaterPrints x, boolean got) {
        good(what, x, got ? 1 : 0, 1);
    }

    /** NONE with this STATUS. */
    void bad(String what, LaterPrints x, long got, int status) {
        due(what, got, LaterPrints.NONE);
        due(what + ", status", x.status(), status);
    }

    void bad(String what, LaterPrints x, boolean got, int status) {
        due(what, got, false);
        due(what + ", status", x.status(), status);
    }

    void fraction(String what, LaterPrints x, long top, long bottom) {
        due(what + ", top", x.top(), top);
        due(what + ", bottom", x.bottom(), bottom);
    }

    void end() {
        System.out.println(asked + " answers, " + wrong + " wrong");
        if (wrong != 0) {
            System.exit(1);
        }
    }
}
