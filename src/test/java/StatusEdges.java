/** The sentences of ==== 5: the status of a call, in which order, and that what is refused changes nothing. */
final class StatusEdges {
    private static final String SCENE = "price 5 rises 1;scene 3 by 2;wall 2 1;person p at 0 0 goes east;"
        + "person q at 0 1 comes 9 goes rest;sight s of p at 1 0;sight t of q at 2 0;buyer a coins 20;buyer b coins 0;";

    private final Check c;
    private final Doc d;

    StatusEdges(Check c, Doc d) {
        this.c = c;
        this.d = d;
    }

    void all() {
        firstThatHolds();
        one();
        others();
        nothingElseChanges();
        theTapeAndTheFault();
        without();
        constants();
    }

    private void firstThatHolds() {
        d.says("STATUS of a call is the first of these that holds:");
        LaterPrints x = c.with(SCENE);
        c.bad("1 ahead of 2", x, x.steps(0, 0, 1), 1);
        c.bad("1 ahead of 2", x, x.steps(0, 1, 0), 1);
        c.bad("1 ahead of 2", x, x.stepsAt(0, 1, 1, 1), 1);
        c.bad("1 ahead of 2", x, x.period(0, 21), 1);
        c.bad("1 ahead of 2", x, x.copyWay(2, 0, 1), 1);
        c.bad("2", x, x.steps(0, 20, 1), 2);
        c.bad("2 ahead of 3", x, x.read(0, 99), 2);
        c.bad("2 ahead of 3", x, x.write(0, -1, 0), 2);
        x.tray(0, 0, 1);
        x.write(0, 0, 99);
        c.bad("3 ahead of 5", x, x.steps(0, 2, 1), 3);
        c.bad("3 ahead of 5", x, x.stepsAt(0, 2, 1, 0), 3);
        c.bad("3 ahead of 5", x, x.period(0, 2), 3);
        c.bad("1 ahead of 5", x, x.steps(0, 1, 5), 1);
        x.tray(0, 0, 3);
        x.write(0, 1, 20);
        x.write(0, 2, 99);
        c.bad("5 ahead of 6", x, x.period(0, 3), 5);
        c.bad("5 ahead of 6", x, x.stepsAt(0, 3, 1, 0), 5);
        c.bad("1 ahead of 6", x, x.lived(5), 1);
        c.bad("1 ahead of 6", x, x.live(10000), 1);
        c.bad("1 ahead of 6", x, x.mean(0, 21), 1);
        c.bad("1 ahead of 6", x, x.person(1, 5), 1);
        c.bad("1 ahead of 6", x, x.turns(1, 10), 1);
        c.bad("1 ahead of 6", x, x.turnsFirst(1, 0), 1);
        c.bad("1 ahead of 6", x, x.placeIn(1, 201), 1);
        c.bad("1 ahead of 6", x, x.whoIn(1, 1, -1), 1);
        c.bad("1 ahead of 6", x, x.cover(2, 13), 1);
        c.bad("1 ahead of 7", x, x.buy(1, 100), 1);
        c.bad("1 ahead of 7", x, x.give(1, 0), 1);
        c.bad("1 ahead of 7", x, x.back(0, 1), 1);
        c.bad("1 ahead of 7", x, x.earn(0, 10000), 1);
        c.bad("1 ahead of 7", x, x.place(1, 3, 0), 1);
        c.bad("1 ahead of 7", x, x.between(2, 1, 0, 0, 13), 1);
        c.bad("1 ahead of 7", x, x.between(2, 1, 3, 0, 0), 1);
        c.bad("1 ahead of 7", x, x.origin(2, 1, 5), 1);
        SecondsEdges.skipTo(x, 999);
        c.bad("1 ahead of 4", x, x.skip(100), 1);
        Check.feed(x, "!".repeat(301));
        c.bad("1 ahead of 9", x, x.runs(301), 1);
        c.bad("1 ahead of 9", x, x.scene(400), 1);
    }

    private void one() {
        d.says("1 a number that can't be; no such TRAY, CELL, PERSON, SIGHT, BUYER, PRINT.");
        LaterPrints x = c.with(SCENE);
        x.buy(0, 1);
        for (int no : new int[] {-1, 4, Integer.MAX_VALUE, Integer.MIN_VALUE}) {
            c.bad("tray " + no, x, x.read(no, 0), 1);
            c.bad("told " + (no == 4 ? 14 : no), x, x.told(no == 4 ? 14 : no), 1);
        }
        for (int no : new int[] {-1, 3, Integer.MAX_VALUE, Integer.MIN_VALUE}) {
            c.bad("column " + no, x, x.who(no, 0), 1);
        }
        for (int no : new int[] {-1, 2, Integer.MAX_VALUE, Integer.MIN_VALUE}) {
            c.bad("row " + no, x, x.who(0, no), 1);
            c.bad("person " + no, x, x.person(no, 2), 1);
            c.bad("sight " + no, x, x.sight(no, 0), 1);
            c.bad("buyer " + no, x, x.coins(no), 1);
            c.bad("print " + no, x, x.owner(no), 1);
        }
        c.bad("print 0", x, x.owner(0), 1);
    }

    private void others() {
        d.says("2 the TRAY is MISSING.");
        LaterPrints x = c.with(SCENE);
        c.bad("write", x, x.write(3, 0, 0), 2);
        c.bad("read", x, x.read(3, 0), 2);
        c.bad("pour", x, x.pour(3, 0, 3, 0, 0), 2);
        c.bad("steps", x, x.steps(3, 1, 1), 2);
        c.bad("stepsAt", x, x.stepsAt(3, 1, 1, 0), 2);
        c.bad("period", x, x.period(3, 1), 2);
        c.bad("copyWay", x, x.copyWay(0, 3, 1), 2);
        d.says("3 a place that the TRAY has not, or too few numbers.");
        x.tray(3, 0, 2);
        c.bad("write", x, x.write(3, 2, 0), 3);
        c.bad("write", x, x.write(3, -1, 0), 3);
        c.bad("read", x, x.read(3, 2), 3);
        c.bad("read", x, x.read(3, -1), 3);
        c.bad("pour", x, x.pour(3, 0, 3, 0, 3), 3);
        c.bad("steps", x, x.steps(3, 3, 1), 3);
        c.bad("stepsAt", x, x.stepsAt(3, 3, 1, 0), 3);
        c.bad("period", x, x.period(3, 3), 3);
        c.bad("copyWay", x, x.copyWay(0, 3, 3), 3);
        c.good("just enough", x, x.copyWay(0, 3, 2), 2);
        d.says("4 one too many.");
        LaterPrints y = c.with(SCENE);
        SecondsEdges.skipTo(y, 999);
        c.bad("skip", y, y.skip(1), 4);
        for (int i = 0; i < 3; i++) {
            y.mark();
        }
        c.bad("mark", y, y.mark(), 4);
        d.says("5 a number in a TRAY that can't be.");
        for (long no : new long[] {-2, 3, 9, 12, 20, 99, 127}) {
            x.tray(0, 0, 2);
            x.write(0, 1, no);
            c.bad("steps by " + no, x, x.steps(0, 2, 1), 5);
            c.bad("stepsAt by " + no, x, x.stepsAt(0, 2, 1, 0), 5);
            c.bad("period by " + no, x, x.period(0, 2), 5);
        }
        sixToZero();
    }

    private void sixToZero() {
        d.says("6 there is none such.");
        LaterPrints x = c.with(SCENE);
        c.bad("who", x, x.who(1, 0), 6);
        c.bad("person", x, x.person(1, 0), 6);
        c.bad("stepOf", x, x.stepOf(0, 1), 6);
        c.bad("placeIn", x, x.placeIn(1, 0), 6);
        c.bad("first", x, x.first(1), 6);
        c.bad("gone", x, x.gone(0), 6);
        c.bad("cover", x, x.cover(2, 12), 6);
        c.bad("turns", x, x.turns(1, 1), 6);
        c.bad("live", x, x.live(0), 6);
        c.bad("lived", x, x.lived(0), 6);
        c.bad("undo", x, x.undo(), 6);
        d.says("7 it can't be.");
        c.bad("buy", x, x.buy(1, 1), 7);
        x.skip(1);
        c.bad("give", x, x.give(1, 0), 7);
        c.bad("back", x, x.back(0, 1), 7);
        for (int i = 0; i < 9; i++) {
            c.good("earn", x, x.earn(0, 999), 20 + 999 * (i + 1));
        }
        c.bad("earn", x, x.earn(0, 999), 7);
        c.bad("build", x, x.build(2, 1, true), 7);
        c.bad("place", x, x.place(1, 0, 0), 7);
        c.bad("between", x, x.between(2, 1, 0, 0, 0), 7);
        c.bad("origin", x, x.origin(2, 1, 0), 7);
        d.says("8 TRAYS are of unlike sorts.");
        for (int from = 0; from < 4; from++) {
            for (int to = 0; to < 4; to++) {
                x.tray(0, from, 1);
                x.tray(1, to, 1);
                boolean got = x.pour(0, 0, 1, 0, 1);
                c.due(from + " to " + to, got, from == to);
                c.due(from + " to " + to, x.status(), from == to ? 0 : 8);
            }
        }
        d.says("9 a FAULT.");
        c.bad("scene", x, Check.scene(x, "scene"), 9);
        c.bad("runs", x, Check.runs(x, "loop"), 9);
        d.says("0 else.");
        c.good("told", x, x.told(0), 3);
        c.good("skip", x, x.skip(1), 2);
        c.good("again, behind a fault", x, Check.scene(x, ""), 0);
    }

    /** A call that must be refused, with its status; all is as it was ahead of it. */
    private void refused(String what, LaterPrints x, String ahead, long got, int status) {
        c.due(what, got == LaterPrints.NONE || got == 0, true);
        c.due(what + ", status", x.status(), status);
        c.due(what + " changed nothing", Check.state(x).equals(ahead), true);
    }

    private void nothingElseChanges() {
        d.says("With another STATUS than 0 a call gives NONE, or false, and changes nothing else");
        LaterPrints x = c.with(SCENE, "buy a 1;");
        x.tray(0, 0, 2);
        x.tray(1, 1, 2);
        x.write(0, 0, 7);
        x.live(0);
        x.comesBack(1, 3);
        String all = Check.state(x);
        refused("tray", x, all, x.tray(0, 0, 61) ? 1 : 0, 1);
        refused("write", x, all, x.write(0, 2, 1) ? 1 : 0, 3);
        refused("pour", x, all, x.pour(0, 0, 1, 0, 1) ? 1 : 0, 8);
        refused("pour", x, all, x.pour(0, 0, 0, 1, 2) ? 1 : 0, 3);
        refused("buy", x, all, x.buy(1, 9), 7);
        refused("skip", x, all, x.skip(100), 1);
        refused("give", x, all, x.give(1, 0), 7);
        refused("back", x, all, x.back(1, 1), 7);
        refused("earn", x, all, x.earn(0, 0), 1);
        refused("price", x, all, x.price(1, 21) ? 1 : 0, 1);
        refused("price", x, all, x.price(100, 1) ? 1 : 0, 1);
        refused("build", x, all, x.build(1, 0, true) ? 1 : 0, 7);
        refused("teach", x, all, x.teach(0, 1, 1) ? 1 : 0, 1);
        refused("place", x, all, x.place(0, 2, 1) ? 1 : 0, 7);
        refused("comesBack", x, all, x.comesBack(1, 17) ? 1 : 0, 1);
        refused("mean", x, all, x.mean(9999, 2) ? 1 : 0, 1);
        refused("copyWay", x, all, x.copyWay(0, 0, 3), 3);
        refused("live", x, all, x.live(-1), 1);
        refused("undo", x, all, x.undo(), 6);
        refused("scene", x, all, x.scene(1), 1);
        refused("runs", x, all, x.runs(1), 1);
        x.mark();
        x.mark();
        x.mark();
        refused("mark", x, all, x.mark(), 4);
        c.good("the marks are still three", x, x.undo(), 2);
    }

    private void theTapeAndTheFault() {
        d.says("(but scene(), runs() with 9 the tape, and what fault() tells).");
        LaterPrints x = c.with(SCENE, "buy a 1;");
        c.due("the tape ahead", x.feed(0x21212121, 0, 0, 0, 0), 20);
        c.bad("scene", x, x.scene(1), 9);
        c.due("its fault", x.fault(0), 1);
        c.due("its place", x.fault(1), 0);
        c.due("the tape is empty", x.feed(0x20202120, 0, 0, 0, 0), 20);
        c.bad("runs", x, x.runs(4), 9);
        c.due("its fault", x.fault(0), 1);
        c.due("its place", x.fault(1), 2);
        c.due("the tape is empty", x.feed(0, 0, 0, 0, 0), 20);
        c.good("the old scene stays", x, x.told(4), 2);
        c.good("the old RUNS stay", x, x.live(0), 1);
        c.bad("with 1 the tape stays", x, x.runs(21), 1);
        c.due("with 1 the tape stays", x.feed(0, 0, 0, 0, 0), 40);
        c.due("with 1 the fault stays", x.fault(1), 2);
    }

    private void without() {
        d.says("status(), top(), bottom(), feed(), fault() have none.");
        LaterPrints x = new LaterPrints();
        x.told(14);
        for (int i = 0; i < 46; i++) {
            x.feed(0, 0, 0, 0, 0);
            c.due("feed, refused or not", x.status(), 1);
        }
        x.fault(-1);
        c.due("fault", x.status(), 1);
        x.fault(2);
        c.due("fault", x.status(), 1);
        x.top();
        c.due("top", x.status(), 1);
        x.bottom();
        c.due("bottom", x.status(), 1);
        x.status();
        c.due("status", x.status(), 1);
        x.told(13);
        x.fault(7);
        c.due("fault", x.status(), 0);
    }

    private void constants() {
        d.says("The constants: `NONE = -1`: None.");
        c.due("NONE", LaterPrints.NONE, -1);
    }
}
