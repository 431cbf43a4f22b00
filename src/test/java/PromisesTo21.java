/** The sentences of promises 1 to 21: a new object, trays, texts, what is told. */
final class PromisesTo21 {
    private static final String SCENE = "price 3 rises 2;scene 6 by 5;wall 5 4;wall 0 4;"
        + "person a at 0 0 leaves 3 goes east;person b at 2 1 comes 2 goes north rest west south east rest rest rest;"
        + "sight x of a at 1 0;sight y of a with b;sight z empty;sight w of b at 5 4;buyer p coins 0;buyer q coins 70;";

    private final Check c;
    private final Doc d;

    PromisesTo21(Check c, Doc d) {
        this.c = c;
        this.d = d;
    }

    void all() {
        newObject();
        statusAndFraction();
        trays();
        pours();
        feeds();
        scenes();
        runs();
        faults();
        told();
        cells();
        persons();
        sights();
        buyers();
    }

    private void newObject() {
        d.promises(1, "A SCENE of no CELLS, PERSONS, SIGHTS, BUYERS; PRICE 5, RISES 1; SECOND 0; no RUNS, MARKS; "
            + "TRAYS are MISSING; an empty tape; the FRACTION 0 by 1; STATUS 0.");
        LaterPrints x = new LaterPrints();
        c.due("status", x.status(), 0);
        c.fraction("the fraction", x, 0, 1);
        int[] told = {0, 0, 0, 0, 0, 0, 5, 1, 0, 0, 0, 0, 0, 0};
        for (int what = 0; what < told.length; what++) {
            c.good("told " + what, x, x.told(what), told[what]);
        }
        c.bad("no cell", x, x.wall(0, 0), 1);
        c.bad("nobody", x, x.person(0, 2), 1);
        c.bad("no sight", x, x.sight(0, 0), 1);
        c.bad("no buyer", x, x.coins(0), 1);
        c.bad("no RUNS", x, x.live(0), 6);
        c.bad("no MARKS", x, x.undo(), 6);
        for (int tray = 0; tray < 4; tray++) {
            c.bad("tray " + tray, x, x.read(tray, 0), 2);
        }
        c.bad("an empty tape", x, x.scene(1), 1);
        c.bad("an empty tape", x, x.runs(1), 1);
        c.due("an empty tape", x.feed(0, 0, 0, 0, 0), 20);
        // What one object does is nothing to another.
        x.skip(5);
        x.comesBack(1, 1);
        LaterPrints y = new LaterPrints();
        c.due("another one, status", y.status(), 0);
        c.fraction("another one", y, 0, 1);
        c.good("another one", y, y.told(5), 0);
        c.good("nothing is to come, all is as it is", y, y.again(), 1);
        c.good("prints of nothing", y, y.skip(99), 99);
        c.good("RUNS without a scene", y, Check.runs(y, "skip 1;"), 1);
        c.good("lived", y, y.live(0), 1);
    }

    private void statusAndFraction() {
        d.promises(2, "STATUS of the latest call that has one.");
        LaterPrints x = new LaterPrints();
        x.undo();
        c.due("6", x.status(), 6);
        x.feed(0, 0, 0, 0, 0);
        x.top();
        x.bottom();
        x.fault(0);
        c.due("6 still", x.status(), 6);
        x.told(0);
        c.due("0", x.status(), 0);
        x.read(0, 0);
        c.due("2", x.status(), 2);
        x.comesBack(1, 1);
        c.due("0", x.status(), 0);
        // Every sort of answer, boolean and long too, makes its own status 0 again.
        LaterPrints y = c.with("scene 1 by 1;");
        y.undo();
        y.between(0, 0, 0, 0, 0);
        c.due("between", y.status(), 0);
        y.undo();
        y.tray(0, 0, 1);
        c.due("tray", y.status(), 0);
        y.undo();
        y.read(0, 0);
        c.due("read", y.status(), 0);
        d.promises(3, "The top of the FRACTION told latest.");
        x.comesBack(12, 1);
        c.due("above what an int holds", x.top(), (1L << 48) - 129746337890625L);
        x.comesBack(1, 0);
        c.due("0", x.top(), 0);
        x.comesBack(1, 17);
        c.due("a refused one tells none", x.top(), 0);
        d.promises(4, "Its bottom, above 0.");
        c.due("of 0", x.bottom(), 1);
        x.comesBack(12, 1);
        c.due("above what an int holds", x.bottom(), 1L << 48);
        x.mean(0, 1);
        c.due("a refused one tells none", x.bottom(), 1L << 48);
    }

    private void trays() {
        d.promises(5, "A TRAY is a row of so many 0s (1).");
        LaterPrints x = new LaterPrints();
        c.good("60", x, x.tray(3, 3, 60));
        for (int place = 0; place < 60; place++) {
            c.good("place " + place, x, x.read(3, place), 0);
            c.good("write", x, x.write(3, place, place + 1));
        }
        c.good("again, fewer", x, x.tray(3, 0, 2));
        c.good("0s again", x, x.read(3, 1), 0);
        c.bad("no third", x, x.read(3, 2), 3);
        c.good("again, more", x, x.tray(3, 3, 60));
        c.good("0s again", x, x.read(3, 59), 0);
        int[][] no = {{-1, 0, 1}, {4, 0, 1}, {3, -1, 1}, {3, 4, 1}, {3, 0, -1}, {3, 0, 61}, {3, 0, Integer.MAX_VALUE},
            {3, 0, Integer.MIN_VALUE}};
        for (int[] n : no) {
            c.bad("no such", x, x.tray(n[0], n[1], n[2]), 1);
        }
        c.good("still 60", x, x.read(3, 59), 0);
        d.promises(6, "A number comes to a place of a TRAY, cut to its sort (1, 2, 3).");
        long v = 0xFEDC_BA98_7654_3210L;
        long[] cut = {0x10, 0x3210, 0x76543210, v};
        long[] below = {-128, -32768, -2147483648L, Long.MIN_VALUE};
        for (int sort = 0; sort < 4; sort++) {
            x.tray(0, sort, 2);
            c.good("write", x, x.write(0, 1, v));
            c.good("cut", x, x.read(0, 1), cut[sort]);
            c.good("write", x, x.write(0, 1, below[sort]));
            c.good("the least", x, x.read(0, 1), below[sort]);
            c.good("its neighbour", x, x.read(0, 0), 0);
        }
        c.bad("no tray", x, x.write(4, 0, 1), 1);
        c.bad("missing", x, x.write(1, 0, 1), 2);
        c.bad("behind the last", x, x.write(0, 2, 1), 3);
        c.bad("ahead of the first", x, x.write(0, -1, 1), 3);
        d.promises(7, "The number in a place of a TRAY; STATUS tells NONE from -1 (1, 2, 3).");
        x.write(0, 0, -1);
        c.good("-1", x, x.read(0, 0), -1);
        c.bad("no tray", x, x.read(-1, 0), 1);
        c.bad("missing", x, x.read(1, 0), 2);
        c.bad("behind the last", x, x.read(0, 2), 3);
        c.bad("ahead of the first", x, x.read(0, -1), 3);
        c.bad("far ahead", x, x.read(0, Integer.MIN_VALUE), 3);
        c.bad("far behind", x, x.read(0, Integer.MAX_VALUE), 3);
    }

    private LaterPrints row() {
        LaterPrints x = new LaterPrints();
        x.tray(0, 0, 6);
        x.tray(1, 0, 3);
        x.tray(2, 1, 6);
        for (int i = 0; i < 6; i++) {
            x.write(0, i, i + 1);
        }
        return x;
    }

    private void isRow(LaterPrints x, int tray, int... want) {
        for (int i = 0; i < want.length; i++) {
            c.good("place " + i, x, x.read(tray, i), want[i]);
        }
    }

    private void pours() {
        d.promises(8, "So many numbers of a TRAY, from a place on, come to another one's (or its own) place on, as they were "
            + "(1: below 0, too; 2; 8; 3; asked in this order).");
        LaterPrints x = row();
        c.good("to its own, behind", x, x.pour(0, 0, 0, 2, 4));
        isRow(x, 0, 1, 2, 1, 2, 3, 4);
        x = row();
        c.good("to its own, ahead", x, x.pour(0, 2, 0, 0, 4));
        isRow(x, 0, 3, 4, 5, 6, 5, 6);
        x = row();
        c.good("to its own place", x, x.pour(0, 0, 0, 0, 6));
        isRow(x, 0, 1, 2, 3, 4, 5, 6);
        c.good("to another one, full", x, x.pour(0, 3, 1, 0, 3));
        isRow(x, 1, 4, 5, 6);
        c.good("none", x, x.pour(0, 6, 1, 3, 0));
        c.good("none", x, x.pour(0, 0, 1, 0, 0));
        isRow(x, 1, 4, 5, 6);
        c.bad("one more than there is", x, x.pour(0, 4, 1, 0, 3), 3);
        c.bad("one more than there is room", x, x.pour(0, 0, 1, 1, 3), 3);
        c.bad("none from beyond", x, x.pour(0, 7, 1, 0, 0), 3);
        c.bad("none to beyond", x, x.pour(0, 0, 1, 4, 0), 3);
        c.bad("far too many", x, x.pour(0, 1, 1, 1, Integer.MAX_VALUE), 3);
        c.bad("from far beyond", x, x.pour(0, Integer.MAX_VALUE, 1, 0, 1), 3);
        c.bad("8 ahead of 3", x, x.pour(0, 9, 2, 9, 9), 8);
        c.bad("8, for none too", x, x.pour(0, 0, 2, 0, 0), 8);
        c.bad("2 ahead of 8", x, x.pour(2, 9, 3, 9, 9), 2);
        c.bad("2 ahead of 8", x, x.pour(3, 9, 2, 9, 9), 2);
        c.bad("1 ahead of 2, from", x, x.pour(4, 0, 3, 0, 0), 1);
        c.bad("1 ahead of 2, to", x, x.pour(3, 0, -1, 0, 0), 1);
        c.bad("1 ahead of 2, place", x, x.pour(3, -1, 3, 0, 0), 1);
        c.bad("1 ahead of 2, at", x, x.pour(3, 0, 3, -1, 0), 1);
        c.bad("1 ahead of 2, many", x, x.pour(3, 0, 3, 0, -1), 1);
        c.bad("far below 0", x, x.pour(0, 0, 1, 0, Integer.MIN_VALUE), 1);
        isRow(x, 0, 1, 2, 3, 4, 5, 6);
        isRow(x, 1, 4, 5, 6);
        isRow(x, 2, 0, 0, 0, 0, 0, 0);
    }

    private void feeds() {
        d.promises(9, "Twenty bytes come behind those on the tape, the highest of each int first: how many it has; "
            + "NONE if there would be more than 900.");
        LaterPrints x = new LaterPrints();
        c.due("20", x.feed(0x62757965, 0x72206120, 0x636f696e, 0x73203120, 0x3b202020), 20);
        c.due("40", x.feed(0x20206275, 0x79657220, 0x62203b20, 0x20202020, 0x20202020), 40);
        c.good("buyer a coins 1 ; buyer b ;", x, x.scene(40), 0);
        c.good("a", x, x.coins(0), 1);
        c.good("b", x, x.coins(1), 100);
        LaterPrints y = new LaterPrints();
        for (int feeds = 1; feeds <= 45; feeds++) {
            c.due("feed " + feeds, y.feed(0x20202020, 0x20202020, 0x20202020, 0x20202020, 0x20202020), 20 * feeds);
        }
        c.due("901 and more", y.feed(0x21212121, 0, 0, 0, 0), -1);
        c.due("901 and more", y.feed(0x21212121, 0, 0, 0, 0), -1);
        c.good("the 900 are as they were", y, y.scene(900), 0);
    }

    private void scenes() {
        d.promises(10, "The first n bytes of the tape (which is empty then) are the SCENE: how many SIGHTS "
            + "(1: n below 0, or more than the tape has, too; 9: the old one stays).");
        LaterPrints x = new LaterPrints();
        String text = "scene 1 by 1;sight s empty;sight t empty;";
        Check.feed(x, text);
        c.bad("-1", x, x.scene(-1), 1);
        c.bad("far below", x, x.scene(Integer.MIN_VALUE), 1);
        c.bad("61", x, x.scene(61), 1);
        c.bad("far above", x, x.scene(Integer.MAX_VALUE), 1);
        c.good("the first bytes alone", x, x.scene(text.length() - 14), 1);
        c.bad("the tape is empty, whatever was left on it", x, x.scene(1), 1);
        c.good("none is a scene, too", x, x.scene(0), 0);
        Check.feed(x, "buyer abc coins 9999;");
        c.bad("a word that goes on behind them", x, x.scene(7), 9);
        c.due("ends with them", x.fault(1), 7);
        Check.feed(x, "buyer abc coins 9999;");
        c.bad("a number that goes on behind them", x, x.scene(17), 9);
        c.due("ends with them", x.fault(1), 17);
        c.good("two sights", x, Check.scene(x, text), 2);
        c.bad("a fault", x, Check.scene(x, text + "!"), 9);
        c.good("the old one stays", x, x.told(3), 2);
        c.bad("the tape is empty", x, x.scene(1), 1);
    }

    private void runs() {
        d.promises(11, "Likewise the RUNS: how many ACTS (1: above 300, too; 9).");
        LaterPrints x = c.with(SCENE);
        Check.feed(x, "skip 1;loop 2;any;end;" + " ".repeat(300));
        c.bad("-1", x, x.runs(-1), 1);
        c.bad("301", x, x.runs(301), 1);
        c.bad("341", x, x.runs(341), 1);
        c.good("300", x, x.runs(300), 3);
        c.bad("the tape is empty", x, x.runs(1), 1);
        c.bad("a fault", x, Check.runs(x, "stop;stop"), 9);
        c.good("the old ones stay", x, x.live(0), 4);
        c.bad("the tape is empty", x, x.runs(1), 1);
        c.good("none are no acts", x, x.runs(0), 0);
    }

    private void faults() {
        d.promises(12, "Of the latest scene() or runs() with STATUS 0 or 9, what 0: the FAULT (0 without one), 1: its place "
            + "(NONE without).");
        LaterPrints x = new LaterPrints();
        Check.scene(x, "buyer a;buyer a;");
        c.due("3", x.fault(0), 3);
        c.due("at 14", x.fault(1), 14);
        x.scene(1);
        x.runs(-1);
        c.due("still 3", x.fault(0), 3);
        c.due("still at 14", x.fault(1), 14);
        Check.runs(x, "skip 1;");
        c.due("none", x.fault(0), 0);
        c.due("nowhere", x.fault(1), -1);
        Check.runs(x, "!");
        c.due("1", x.fault(0), 1);
        c.due("at 0", x.fault(1), 0);
        Check.scene(x, "");
        c.due("none", x.fault(0), 0);
        c.due("nowhere", x.fault(1), -1);
        d.promises(12, "NONE for others, and ahead of any.");
        for (int what : new int[] {-1, 2, Integer.MAX_VALUE, Integer.MIN_VALUE}) {
            c.due("what " + what, x.fault(what), -1);
        }
        LaterPrints y = new LaterPrints();
        c.due("ahead of any", y.fault(0), -1);
        c.due("ahead of any", y.fault(1), -1);
        y.scene(1);
        c.due("one with status 1 is none", y.fault(0), -1);
    }

    private void told() {
        d.promises(13, "WIDE (what 0), DEEP (1), how many PERSONS (2), SIGHTS (3), BUYERS (4); the SECOND (5); "
            + "PRICE of the next print (6), what it RISES (7); sets of PERSONS (1 for PERSON 0 ..) that are there (8), "
            + "gone for good (9), of SIGHTS that the SCENE shows now (10); how many WALLS (11), all COINS (12), "
            + "PRINTS that are of somebody (13) (1).");
        LaterPrints x = c.with(SCENE);
        isTold(x, 6, 5, 2, 4, 2, 0, 3, 2, 1, 0, 0, 2, 70, 0);
        x.buy(1, 1);
        isTold(x, 6, 5, 2, 4, 2, 1, 5, 2, 1, 0, 1, 2, 67, 1);
        x.skip(1);
        isTold(x, 6, 5, 2, 4, 2, 2, 7, 2, 3, 0, 2, 2, 67, 1);
        x.build(5, 4, false);
        x.skip(1);
        isTold(x, 6, 5, 2, 4, 2, 3, 9, 2, 2, 1, 0, 1, 67, 1);
        LaterPrints y = c.with("price 99 rises 20;buyer a coins 9999;buyer b coins 9999;buyer c coins 9999;buyer d coins 9999;");
        c.good("all coins", y, y.told(12), 39996);
        SecondsEdges.skipTo(y, 999);
        c.good("the last second", y, y.told(5), 999);
        c.good("the next one would cost", y, y.told(6), 99 + 999 * 20);
        c.bad("-1", x, x.told(-1), 1);
        c.bad("14", x, x.told(14), 1);
        StringBuilder five = new StringBuilder("scene 6 by 5;");
        for (int i = 0; i < 5; i++) {
            five.append("person p").append((char) ('a' + i)).append(" at 5 ").append(i).append(" leaves 1 goes rest;");
        }
        LaterPrints z = c.with(five.toString());
        c.good("all five there", z, z.told(8), 31);
        z.skip(1);
        c.good("all five gone", z, z.told(9), 31);
        c.good("nobody there", z, z.told(8), 0);
    }

    private void isTold(LaterPrints x, int... want) {
        for (int what = 0; what < want.length; what++) {
            c.good("told " + what, x, x.told(what), want[what]);
        }
    }

    private void cells() {
        d.promises(14, "Who is in a CELL (1; 6: nobody).");
        LaterPrints x = c.with(SCENE);
        c.good("a", x, x.who(0, 0), 0);
        c.bad("b is not there yet", x, x.who(2, 1), 6);
        c.bad("a wall", x, x.who(5, 4), 6);
        int[][] no = {{-1, 0}, {6, 0}, {0, -1}, {0, 5}, {Integer.MAX_VALUE, 0}, {0, Integer.MAX_VALUE}, {Integer.MIN_VALUE, 0}};
        for (int[] cell : no) {
            c.bad("no cell", x, x.who(cell[0], cell[1]), 1);
        }
        x.place(0, 5, 3);
        c.good("the last column", x, x.who(5, 3), 0);
        x.place(0, 4, 4);
        c.good("the last row", x, x.who(4, 4), 0);
        x.skip(3);
        c.bad("a is gone", x, x.who(4, 4), 6);
        d.promises(15, "1 if a CELL is a WALL, else 0 (1).");
        c.good("a wall", x, x.wall(5, 4), 1);
        c.good("none", x, x.wall(4, 4), 0);
        for (int[] cell : no) {
            c.bad("no cell", x, x.wall(cell[0], cell[1]), 1);
        }
    }

    private void persons() {
        d.promises(16, "Of a PERSON, what 0, 1: the column, row where he is (6: not there), 2: the SECOND in which he COMES, "
            + "3: LEAVES (6: never), 4: how many STEPS he has (1).");
        LaterPrints x = c.with(SCENE);
        int[] a = {0, 0, 0, 3, 1};
        for (int what = 0; what < 5; what++) {
            c.good("a " + what, x, x.person(0, what), a[what]);
        }
        c.bad("b is not there yet", x, x.person(1, 0), 6);
        c.bad("b is not there yet", x, x.person(1, 1), 6);
        c.good("b comes", x, x.person(1, 2), 2);
        c.bad("b never leaves", x, x.person(1, 3), 6);
        c.good("b has eight steps", x, x.person(1, 4), 8);
        x.place(0, 5, 3);
        c.good("column", x, x.person(0, 0), 5);
        c.good("row", x, x.person(0, 1), 3);
        x.place(0, 4, 4);
        c.good("row", x, x.person(0, 1), 4);
        x.skip(3);
        c.bad("a is gone", x, x.person(0, 0), 6);
        c.bad("a is gone", x, x.person(0, 1), 6);
        c.good("a came", x, x.person(0, 2), 0);
        c.good("a left", x, x.person(0, 3), 3);
        c.bad("nobody", x, x.person(2, 2), 1);
        c.bad("nobody", x, x.person(-1, 2), 1);
        c.bad("what", x, x.person(0, 5), 1);
        c.bad("what", x, x.person(0, -1), 1);
        d.promises(17, "The k-th STEP of a PERSON, from 0 on: 0 east, 1 south, 2 west, 3 north, 4 rest (1; 6: no such).");
        int[] b = {3, 4, 2, 1, 0, 4, 4, 4};
        for (int k = 0; k < 8; k++) {
            c.good("b's " + k, x, x.stepOf(1, k), b[k]);
        }
        c.bad("no ninth", x, x.stepOf(1, 8), 6);
        c.bad("a has no second", x, x.stepOf(0, 1), 6);
        c.bad("below 0", x, x.stepOf(0, -1), 6);
        c.bad("far below 0", x, x.stepOf(0, Integer.MIN_VALUE), 6);
        c.bad("far above", x, x.stepOf(0, Integer.MAX_VALUE), 6);
        c.bad("nobody", x, x.stepOf(2, 0), 1);
        c.bad("nobody", x, x.stepOf(-1, -1), 1);
    }

    private void sights() {
        d.promises(18, "Of a SIGHT, what 0: 0 at a CELL, 1 two beside each other, 2 nobody, 1: the PERSON (6: nobody), "
            + "2: the CELL (10 times the row, and the column), or the other PERSON (6: nobody) (1).");
        LaterPrints x = c.with(SCENE);
        int[][] sights = {{0, 0, 1}, {1, 0, 1}, {2, -1, -1}, {0, 1, 45}};
        for (int sight = 0; sight < 4; sight++) {
            for (int what = 0; what < 3; what++) {
                c.due("sight " + sight + " " + what, x.sight(sight, what), sights[sight][what]);
                c.due("status", x.status(), sights[sight][what] < 0 ? 6 : 0);
            }
        }
        c.bad("what", x, x.sight(2, 3), 1);
        c.bad("what", x, x.sight(2, -1), 1);
        c.bad("no such", x, x.sight(4, 0), 1);
        c.bad("no such", x, x.sight(-1, 0), 1);
        // A sight of another scene leaves nothing behind.
        Check.scene(x, "scene 2 by 1;sight e empty;person p at 1 0 goes rest;sight f of p at 1 0;");
        c.bad("nobody", x, x.sight(0, 1), 6);
        c.good("at a cell", x, x.sight(1, 0), 0);
        c.good("the cell", x, x.sight(1, 2), 1);
    }

    private void buyers() {
        d.promises(19, "COINS of a BUYER (1).");
        LaterPrints x = c.with(SCENE);
        c.good("none", x, x.coins(0), 0);
        c.good("70", x, x.coins(1), 70);
        c.bad("no such", x, x.coins(2), 1);
        c.bad("no such", x, x.coins(-1), 1);
        d.promises(20, "Whose a PRINT is, from 1 on (1: not made; 6: nobody's).");
        c.bad("not made", x, x.owner(1), 1);
        x.buy(1, 1);
        c.good("q's", x, x.owner(1), 1);
        c.bad("0", x, x.owner(0), 1);
        c.bad("not made", x, x.owner(2), 1);
        x.skip(1);
        c.bad("nobody's", x, x.owner(2), 6);
        c.bad("below 0", x, x.owner(Integer.MIN_VALUE), 1);
        x.back(1, 1);
        c.bad("sold back", x, x.owner(1), 6);
        d.promises(21, "How many PRINTS a BUYER has (1).");
        c.good("none", x, x.prints(1), 0);
        x.buy(1, 2);
        c.good("two", x, x.prints(1), 2);
        c.good("none", x, x.prints(0), 0);
        x.give(3, 0);
        c.good("one", x, x.prints(1), 1);
        c.good("one", x, x.prints(0), 1);
        c.bad("no such", x, x.prints(2), 1);
        c.bad("no such", x, x.prints(-1), 1);
    }
}
