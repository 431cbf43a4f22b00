/** What the tests share: texts put on the tape, answers compared, the exit code at the end. */
final class Check {
    private int wrong = 0;
    private int asked = 0;
    /** The sentence of the document that is tested now, told with every wrong answer. */
    private String sentence = "";

    void about(String words) {
        sentence = words;
    }

    int asked() {
        return asked;
    }

    static void feed(LaterPrints x, String text) {
        for (int i = 0; i < text.length(); i += 20) {
            int[] five = new int[5];
            for (int k = 0; k < 20; k++) {
                int sign = i + k < text.length() ? text.charAt(i + k) & 255 : 0;
                five[k / 4] = five[k / 4] << 8 | sign;
            }
            x.feed(five[0], five[1], five[2], five[3], five[4]);
        }
    }

    static int scene(LaterPrints x, String text) {
        feed(x, text);
        return x.scene(text.length());
    }

    static int runs(LaterPrints x, String text) {
        feed(x, text);
        return x.runs(text.length());
    }

    /** A new object with a scene that must be taken. */
    LaterPrints with(String text) {
        LaterPrints x = new LaterPrints();
        scene(x, text);
        if (x.status() != 0) {
            due("a scene without fault: " + text + " has " + x.fault(0) + " at " + x.fault(1), x.status(), 0);
        }
        return x;
    }

    void due(String what, long got, long want) {
        asked++;
        if (got != want) {
            wrong++;
            System.out.println(what + " answered " + got + ", due is " + want
                + (sentence.isEmpty() ? "" : " [" + sentence + "]"));
        }
    }

    void due(String what, boolean got, boolean want) {
        due(what, got ? 1 : 0, want ? 1 : 0);
    }

    /** An answer with STATUS 0. */
    void good(String what, LaterPrints x, long got, long want) {
        due(what, got, want);
        due(what + ", status", x.status(), 0);
    }

    void good(String what, LaterPrints x, boolean got) {
        good(what, x, got ? 1 : 0, 1);
    }

    /** NONE with this STATUS. */
    void bad(String what, LaterPrints x, long got, int status) {
        due(what, got, LaterPrints.NONE);
        due(what + ", status", x.status(), status);
    }

    void bad(String what, LaterPrints x, boolean got, int status) {
        due(what, got, false);
        due(what + ", status", x.status(), status);
    }

    /** A new object on which this scene has a fault, of this kind, where the mark | stands. */
    LaterPrints sceneFault(String marked, int kind) {
        LaterPrints x = new LaterPrints();
        fault(x, scene(x, unmarked(marked)), marked, kind);
        return x;
    }

    /** A new object with a scene on which these RUNS have a fault, of this kind, where the mark | stands. */
    LaterPrints runsFault(String scene, String marked, int kind) {
        LaterPrints x = with(scene);
        fault(x, runs(x, unmarked(marked)), marked, kind);
        return x;
    }

    private void fault(LaterPrints x, int got, String marked, int kind) {
        bad(marked, x, got, 9);
        due(marked + ", fault", x.fault(0), kind);
        due(marked + ", place", x.fault(1), marked.indexOf('|'));
    }

    private static String unmarked(String marked) {
        int place = marked.indexOf('|');
        return marked.substring(0, place) + marked.substring(place + 1);
    }

    /** A new object with a scene and RUNS that must be taken. */
    LaterPrints with(String scene, String runs) {
        LaterPrints x = with(scene);
        runs(x, runs);
        if (x.status() != 0) {
            due("RUNS without fault: " + runs + " have " + x.fault(0) + " at " + x.fault(1), x.status(), 0);
        }
        return x;
    }

    /** All that can be asked without changing anything but the status. */
    static String state(LaterPrints x) {
        StringBuilder s = new StringBuilder();
        s.append(x.top()).append('/').append(x.bottom()).append(" fault ").append(x.fault(0)).append(' ').append(x.fault(1));
        for (int i = 0; i < 14; i++) {
            s.append(' ').append(x.told(i));
        }
        for (int i = 0; i < 8; i++) {
            for (int k = 0; k < 8; k++) {
                s.append(' ').append(x.who(i, k)).append(x.wall(i, k)).append(x.person(i, k)).append(x.stepOf(i, k));
                s.append(x.sight(i, k));
            }
            s.append(' ').append(x.coins(i)).append(' ').append(x.prints(i)).append(' ').append(x.lived(i));
        }
        for (int print = 1; print <= x.told(5); print++) {
            s.append(' ').append(x.owner(print));
        }
        for (int tray = 0; tray < 4; tray++) {
            for (int place = 0; place <= 60; place++) {
                s.append(' ').append(x.read(tray, place)).append(' ').append(x.status());
            }
        }
        return s.toString();
    }

    void fraction(String what, LaterPrints x, long top, long bottom) {
        due(what + ", top", x.top(), top);
        due(what + ", bottom", x.bottom(), bottom);
    }

    void end() {
        System.out.println(asked + " answers, " + wrong + " wrong");
        if (wrong != 0) {
            System.exit(1);
        }
    }
}
