/** Promises 1 to 4: a new object, status, top, bottom. */
public final class NewObjectTest {
    private static final Check C = new Check();

    public static void main(String[] args) {
        newObject();
        statusIsOfTheLatestCallThatHasOne();
        fractions();
        C.end();
    }

    private static void newObject() {
        LaterPrints x = new LaterPrints();
        C.due("status", x.status(), 0);
        C.fraction("a new object", x, 0, 1);
        C.due("fault 0", x.fault(0), -1);
        C.due("fault 1", x.fault(1), -1);
        long[] told = {0, 0, 0, 0, 0, 0, 5, 1, 0, 0, 0, 0, 0, 0};
        for (int i = 0; i < told.length; i++) {
            C.good("told " + i, x, x.told(i), told[i]);
        }
        C.bad("read", x, x.read(0, 0), 2);
        C.bad("read", x, x.read(3, 0), 2);
        C.bad("who", x, x.who(0, 0), 1);
        C.bad("coins", x, x.coins(0), 1);
        C.bad("live", x, x.live(0), 6);
        C.bad("mean", x, x.mean(0, 1), 6);
        C.bad("lived", x, x.lived(0), 6);
        C.bad("undo", x, x.undo(), 6);
        C.bad("scene of an empty tape", x, x.scene(1), 1);
        C.due("feed", x.feed(0, 0, 0, 0, 0), 20);
        C.due("NONE", LaterPrints.NONE, -1);
    }

    private static void statusIsOfTheLatestCallThatHasOne() {
        LaterPrints x = new LaterPrints();
        x.told(99);
        C.due("status", x.status(), 1);
        C.due("status again", x.status(), 1);
        x.top();
        x.bottom();
        x.fault(0);
        x.fault(7);
        x.feed(1, 2, 3, 4, 5);
        C.due("status behind calls without one", x.status(), 1);
        x.told(0);
        C.due("status", x.status(), 0);
    }

    private static void fractions() {
        LaterPrints x = new LaterPrints();
        C.good("comesBack", x, x.comesBack(1, 4));
        C.fraction("a quarter", x, 1, 4);
        C.bad("comesBack", x, x.comesBack(13, 4), 1);
        C.fraction("a quarter still", x, 1, 4);
        C.good("comesBack", x, x.comesBack(5, 0));
        C.fraction("nothing", x, 0, 1);
    }
}
