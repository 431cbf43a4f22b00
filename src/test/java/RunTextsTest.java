/** Promise 11: runs and its faults, with 12. */
public final class RunTextsTest {
    private static final Check C = new Check();
    private static final String SCENE =
        "scene 3 by 1;person p at 0 0 goes east;sight s of p at 1 0;buyer a coins 50;buyer b;";

    public static void main(String[] args) {
        texts();
        refused();
        tokens();
        names();
        numbers();
        tooMany();
        tooDeep();
        theOldOnesStay();
        C.end();
    }

    private static void taken(String text, int acts) {
        LaterPrints x = C.with(SCENE);
        C.good(text, x, Check.runs(x, text), acts);
        C.due(text + ": fault", x.fault(0), 0);
        C.due(text + ": place", x.fault(1), -1);
    }

    private static void faultAt(String marked, int kind) {
        int place = marked.indexOf('|');
        String text = marked.substring(0, place) + marked.substring(place + 1);
        LaterPrints x = C.with(SCENE);
        C.bad(text, x, Check.runs(x, text), 9);
        C.due(text + ": fault", x.fault(0), kind);
        C.due(text + ": place", x.fault(1), place);
        C.bad("no runs", x, x.live(0), 6);
        C.due("the tape is empty", x.feed(0, 0, 0, 0, 0), 20);
    }

    private static void texts() {
        taken("", 0);
        taken("\n", 0);
        taken("buy a 1;skip 20;give a b;any;stop;", 5);
        taken("give a a;", 1);
        taken("when shows s;end;when there p;any;end;when coins b<0;end;", 4);
        taken("when coins a > 9999;end;when coins a = 12;end ;", 2);
        taken("loop 99;loop 1;loop 2;any;end;end;stop;end;", 5);
        taken("loop 2;end;loop 2;end;loop 2;end;loop 2;end;", 4);
        taken("buy a 20 ;\n\n", 1);
    }

    private static void refused() {
        LaterPrints x = C.with(SCENE);
        for (int i = 0; i < 16; i++) {
            x.feed(0x20202020, 0x20202020, 0x20202020, 0x20202020, 0x20202020);
        }
        C.bad("-1", x, x.runs(-1), 1);
        C.bad("301", x, x.runs(301), 1);
        C.bad("321", x, x.runs(321), 1);
        C.due("the tape stays", x.feed(0, 0, 0, 0, 0), 340);
        C.good("300", x, x.runs(300), 0);
        C.bad("the tape is empty", x, x.runs(1), 1);
    }

    private static void tokens() {
        faultAt("skip |12345;", 1);
        faultAt("skip 1;|!", 1);
        faultAt("|scene 3 by 2;", 2);
        faultAt("|end;", 2);
        faultAt("loop 2;end;|end;", 2);
        faultAt("loop 2;|", 2);
        faultAt("loop 2;any; |", 2);
        faultAt("loop 2;end|", 2);
        faultAt("when shows s|", 2);
        faultAt("when |s;", 2);
        faultAt("when |shown s;", 2);
        faultAt("when coins a |; 5;", 2);
        faultAt("when coins a |5;", 2);
        faultAt("when coins a < |a;", 2);
        faultAt("when coins |< 5;", 2);
        faultAt("buy |any 1;", 2);
        faultAt("buy |abcdefghi 1;", 2);
        faultAt("buy a|;", 2);
        faultAt("buy a 1 |1;", 2);
        faultAt("skip |a;", 2);
        faultAt("any |a;", 2);
        faultAt("give a|;", 2);
        faultAt("loop|;", 2);
        faultAt("|a;", 2);
        faultAt("|7;", 2);
        faultAt("stop|", 2);
        faultAt("|;", 2);
    }

    private static void names() {
        faultAt("buy |c 1;", 3);
        faultAt("buy |p 1;", 3);
        faultAt("give |s a;", 3);
        faultAt("give a |p;", 3);
        faultAt("when shows |p;", 3);
        faultAt("when shows |a;", 3);
        faultAt("when there |s;", 3);
        faultAt("when coins |p < 5;", 3);
    }

    private static void numbers() {
        faultAt("buy a |0;", 4);
        faultAt("buy a |21;", 4);
        faultAt("skip |0;", 4);
        faultAt("skip |21;", 4);
        faultAt("loop |0;", 4);
        faultAt("loop |100;", 4);
    }

    private static void tooMany() {
        StringBuilder thirty = new StringBuilder();
        for (int i = 0; i < 29; i++) {
            thirty.append("any;");
        }
        taken(thirty + "loop 2;end;", 30);
        taken(thirty + "stop;", 30);
        faultAt(thirty + "stop;|any;", 6);
        faultAt(thirty + "loop 2;|stop;end;", 6);
        faultAt(thirty + "loop 2;|buy c 0;", 6);
        faultAt(thirty + "loop 2;|bye;", 2);
        StringBuilder ends = new StringBuilder();
        for (int i = 0; i < 27; i++) {
            ends.append("any;");
        }
        faultAt(ends + "loop 1;loop 1;loop 1;|loop 1;", 6);
    }

    private static void tooDeep() {
        taken("loop 1;when there p;loop 1;any;end;end;end;", 4);
        faultAt("loop 1;when there p;loop 1;|loop 1;", 7);
        faultAt("loop 1;when there p;loop 1;end;loop 1;|when what", 7);
    }

    private static void theOldOnesStay() {
        LaterPrints x = C.with(SCENE);
        C.good("runs", x, Check.runs(x, "skip 3;skip 1;"), 2);
        C.bad("bad ones", x, Check.runs(x, "skip 3;skip 1;skip"), 9);
        C.good("live", x, x.live(0), 2);
        C.good("second", x, x.told(5), 4);
        C.good("others", x, Check.runs(x, "skip 5;"), 1);
        C.good("live", x, x.live(0), 1);
        C.good("second", x, x.told(5), 9);
        C.good("no acts", x, Check.runs(x, ""), 0);
        C.good("are runs, too", x, x.live(0), 0);
    }
}
