/** Promises 60 and 61: mark, undo. */
public final class MarksTest {
    private static final Check C = new Check();
    private static final String SCENE = "price 2 rises 1;scene 3 by 2;wall 2 1;person p at 0 0 leaves 5 goes east south;"
        + "sight s of p at 1 0;buyer a coins 60;buyer b coins 30;";

    public static void main(String[] args) {
        counts();
        allIsTakenBack();
        anotherSceneIsTakenBack();
        namesAreTakenBack();
        theLastPrintKeptIsTakenBack();
        oneBehindTheOther();
        whatIsNotOfTheScene();
        C.end();
    }

    private static void counts() {
        LaterPrints x = new LaterPrints();
        C.bad("none", x, x.undo(), 6);
        for (int i = 1; i <= 3; i++) {
            C.good("mark", x, x.mark(), i);
        }
        C.bad("a fourth", x, x.mark(), 4);
        for (int i = 2; i >= 0; i--) {
            C.good("undo", x, x.undo(), i);
        }
        C.bad("none", x, x.undo(), 6);
        C.good("mark again", x, x.mark(), 1);
    }

    private static String all(LaterPrints x) {
        StringBuilder s = new StringBuilder();
        for (int i = 0; i < 14; i++) {
            s.append(x.told(i)).append(' ');
        }
        for (int c = 0; c < 3; c++) {
            for (int r = 0; r < 2; r++) {
                s.append(x.who(c, r)).append(x.wall(c, r)).append(' ');
            }
        }
        for (int i = 0; i < 5; i++) {
            s.append(x.person(0, i)).append(' ').append(x.stepOf(0, i)).append(' ').append(x.sight(0, i)).append(' ');
            s.append(x.coins(i)).append(' ').append(x.prints(i)).append(' ').append(x.owner(i)).append(' ');
        }
        return s.toString();
    }

    private static void allIsTakenBack() {
        LaterPrints x = C.with(SCENE);
        Check.runs(x, "skip 1;");
        x.buy(0, 2);
        String ahead = all(x);
        C.good("mark", x, x.mark(), 1);
        x.buy(1, 1);
        x.skip(5);
        x.give(1, 1);
        x.back(0, 2);
        x.earn(0, 5);
        x.price(9, 9);
        x.build(0, 1, true);
        x.build(2, 1, false);
        x.teach(0, 0, 4);
        Check.runs(x, "skip 2;skip 2;");
        x.live(3);
        C.due("it was another one", all(x).equals(ahead), false);
        C.good("undo", x, x.undo(), 0);
        C.due("all is as it was", all(x).equals(ahead), true);
        C.good("the runs, too", x, x.live(3), 1);
        C.good("second", x, x.told(5), 3);
    }

    private static void anotherSceneIsTakenBack() {
        LaterPrints x = C.with(SCENE);
        x.buy(0, 3);
        String ahead = all(x);
        x.mark();
        Check.scene(x, "scene 1 by 1;buyer z coins 1;");
        C.good("the marks stay", x, x.mark(), 2);
        Check.runs(x, "buy z 1;");
        C.good("undo", x, x.undo(), 1);
        C.bad("no runs by then", x, x.live(0), 6);
        C.good("undo", x, x.undo(), 0);
        C.due("all is as it was", all(x).equals(ahead), true);
    }

    private static void namesAreTakenBack() {
        LaterPrints x = C.with(SCENE);
        x.mark();
        Check.scene(x, "buyer z;");
        C.good("z", x, Check.runs(x, "buy z 1;"), 1);
        C.bad("no a", x, Check.runs(x, "buy a 1;"), 9);
        x.undo();
        C.good("a", x, Check.runs(x, "buy a 1;when shows s;end;when there p;end;"), 3);
        C.bad("no z", x, Check.runs(x, "buy z 1;"), 9);
    }

    private static void theLastPrintKeptIsTakenBack() {
        LaterPrints x = C.with("price 0 rises 0;buyer a;buyer b;");
        x.buy(0, 99);
        x.buy(0, 21);
        x.mark();
        x.give(120, 1);
        x.give(1, 1);
        C.good("given", x, x.prints(1), 2);
        x.undo();
        C.good("the first", x, x.owner(1), 0);
        C.good("the last", x, x.owner(120), 0);
        C.good("all", x, x.prints(0), 120);
    }

    private static void oneBehindTheOther() {
        LaterPrints x = C.with(SCENE);
        x.mark();
        x.skip(1);
        x.mark();
        x.skip(1);
        x.mark();
        x.skip(1);
        for (int second = 2; second >= 0; second--) {
            C.good("undo", x, x.undo(), second);
            C.good("second", x, x.told(5), second);
        }
        x.mark();
        x.skip(4);
        x.undo();
        C.good("second", x, x.told(5), 0);
    }

    private static void whatIsNotOfTheScene() {
        LaterPrints x = C.with(SCENE);
        Check.runs(x, "skip 1;skip 1;");
        x.mark();
        x.tray(0, 0, 1);
        x.write(0, 0, 5);
        x.comesBack(1, 8);
        x.feed(0, 0, 0, 0, 0);
        x.live(0);
        x.undo();
        C.good("trays stay", x, x.read(0, 0), 5);
        C.fraction("the fraction stays", x, 1, 2);
        C.due("the tape stays", x.feed(0, 0, 0, 0, 0), 40);
        C.good("what was lived stays told", x, x.lived(1), 2);
    }
}
