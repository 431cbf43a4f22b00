/** The sentences of promises 22 to 42: what is done, what would be. */
final class PromisesTo42 {
    private static final String SCENE = "price 10 rises 3;scene 6 by 5;wall 5 4;person a at 0 0 goes east west;"
        + "person b at 2 0 comes 5 goes rest;sight s of a at 1 0;sight t of b at 2 0;buyer p coins 50;buyer q;";

    private final Check c;
    private final Doc d;

    PromisesTo42(Check c, Doc d) {
        this.c = c;
        this.d = d;
    }

    void all() {
        buys();
        skips();
        gives();
        sellsBack();
        earns();
        prices();
        builds();
        teaches();
        places();
        costs();
        whereAndWho();
        firsts();
        often();
        gone();
        again();
        stays();
    }

    private void buys() {
        d.promises(22, "BUY n (1 to 99) prints one behind the other: how many were bought (as long as COINS last, "
            + "SECOND 999 is not passed) (1; 7: none).");
        LaterPrints x = c.with(SCENE);
        c.bad("0", x, x.buy(0, 0), 1);
        c.bad("100", x, x.buy(0, 100), 1);
        c.bad("-1", x, x.buy(0, -1), 1);
        c.bad("no buyer", x, x.buy(2, 1), 1);
        c.bad("no buyer", x, x.buy(-1, 1), 1);
        c.good("10, 13 and 16 of 50", x, x.buy(0, 4), 3);
        c.bad("11 are too few for 19", x, x.buy(0, 1), 7);
        c.good("nothing went by", x, x.told(5), 3);
        c.good("all three are his", x, x.prints(0), 3);
        LaterPrints y = c.with("price 1 rises 0;buyer p coins 199;");
        c.good("99", y, y.buy(0, 99), 99);
        c.good("1", y, y.buy(0, 1), 1);
        c.good("99", y, y.buy(0, 99), 99);
        c.bad("no coin is left", y, y.buy(0, 1), 7);
        LaterPrints z = c.with("price 0 rises 0;buyer p coins 0;");
        SecondsEdges.skipTo(z, 997);
        c.good("998 and 999", z, z.buy(0, 3), 2);
        c.bad("none", z, z.buy(0, 1), 7);
        c.good("999", z, z.told(5), 999);
        LaterPrints w = c.with("price 0 rises 1;buyer p coins 0;");
        c.good("the first for nothing", w, w.buy(0, 99), 1);
    }

    private void skips() {
        d.promises(23, "SKIP n (1 to 99): the SECOND then (1; 4: above 999).");
        LaterPrints x = c.with(SCENE);
        c.bad("0", x, x.skip(0), 1);
        c.bad("100", x, x.skip(100), 1);
        c.bad("-1", x, x.skip(-1), 1);
        c.bad("far above", x, x.skip(Integer.MAX_VALUE), 1);
        c.good("1", x, x.skip(1), 1);
        c.good("99", x, x.skip(99), 100);
        SecondsEdges.skipTo(x, 950);
        c.bad("to 1,000", x, x.skip(50), 4);
        c.good("none of them", x, x.told(5), 950);
        c.good("to 999", x, x.skip(49), 999);
        c.bad("to 1,000", x, x.skip(1), 4);
    }

    private void gives() {
        d.promises(24, "GIVE a PRINT to a BUYER: whose it was (1; 7: nobody's, his own).");
        LaterPrints x = c.with(SCENE);
        c.bad("not made", x, x.give(1, 1), 1);
        x.buy(0, 1);
        x.skip(1);
        c.good("p's", x, x.give(1, 1), 0);
        c.good("q's", x, x.give(1, 0), 1);
        c.bad("his own", x, x.give(1, 0), 7);
        c.bad("nobody's", x, x.give(2, 0), 7);
        c.bad("0", x, x.give(0, 1), 1);
        c.bad("not made", x, x.give(3, 1), 1);
        c.bad("no buyer", x, x.give(1, 2), 1);
        c.bad("no buyer", x, x.give(1, -1), 1);
        c.good("still p's", x, x.owner(1), 0);
    }

    private void sellsBack() {
        d.promises(25, "A BUYER sells a PRINT back for half its PRICE, rounded down: COINS then (at most 9,999) (1; 7: not his).");
        LaterPrints x = c.with(SCENE);
        x.buy(0, 2);
        x.skip(1);
        c.bad("not his", x, x.back(1, 1), 7);
        c.bad("nobody's", x, x.back(0, 3), 7);
        c.bad("not made", x, x.back(0, 4), 1);
        c.bad("0", x, x.back(0, 0), 1);
        c.bad("no buyer", x, x.back(2, 1), 1);
        c.bad("no buyer", x, x.back(-1, 1), 1);
        c.good("half of 13", x, x.back(0, 2), 27 + 6);
        c.bad("no more his", x, x.back(0, 2), 7);
        c.good("half of 10", x, x.back(0, 1), 33 + 5);
        c.good("the second stays", x, x.told(5), 3);
        // 9,993 and a half of 12 is 9,999; of 14 it would be one more.
        for (int first = 12; first <= 14; first += 2) {
            LaterPrints y = c.with("price 0 rises 0;buyer p coins 9993;");
            y.buy(0, 1);
            y.price(first, 0);
            c.good("at most", y, y.back(0, 1), 9999);
        }
        LaterPrints z = c.with("price 0 rises 0;buyer p coins 9999;");
        z.buy(0, 1);
        c.good("for nothing", z, z.back(0, 1), 9999);
        z.buy(0, 1);
        z.price(1, 0);
        c.good("half of 1", z, z.back(0, 2), 9999);
        LaterPrints w = c.with("price 0 rises 0;buyer p coins 0;");
        w.buy(0, 1);
        w.price(1, 0);
        c.good("half of 1", w, w.back(0, 1), 0);
    }

    private void earns() {
        d.promises(26, "A BUYER gets so many COINS (1 to 999): COINS then (1; 7: above 9,999).");
        LaterPrints x = c.with("buyer p coins 9000;buyer q coins 0;");
        c.bad("0", x, x.earn(0, 0), 1);
        c.bad("1,000", x, x.earn(1, 1000), 1);
        c.bad("-1", x, x.earn(0, -1), 1);
        c.bad("no buyer", x, x.earn(2, 1), 1);
        c.bad("no buyer", x, x.earn(-1, 1), 1);
        c.good("1", x, x.earn(1, 1), 1);
        c.good("999", x, x.earn(1, 999), 1000);
        c.good("to 9,999", x, x.earn(0, 999), 9999);
        c.bad("above", x, x.earn(0, 1), 7);
        c.good("as it was", x, x.coins(0), 9999);
        LaterPrints y = c.with("buyer p coins 9001;");
        c.bad("to 10,000", y, y.earn(0, 999), 7);
        c.good("none of it", y, y.coins(0), 9001);
    }

    private void prices() {
        d.promises(27, "PRICE of the first print, what it RISES from now on (0 to 99, 0 to 20) (1).");
        LaterPrints x = c.with(SCENE);
        x.skip(2);
        c.good("the most", x, x.price(99, 20));
        c.good("the next one", x, x.told(6), 139);
        c.good("the least", x, x.price(0, 0));
        c.good("the next one", x, x.told(6), 0);
        c.good("the first one", x, x.price(7, 2));
        c.good("the first one", x, x.priceOf(1), 7);
        c.good("the next one", x, x.told(6), 11);
        c.bad("100", x, x.price(100, 0), 1);
        c.bad("-1", x, x.price(-1, 0), 1);
        c.bad("21", x, x.price(0, 21), 1);
        c.bad("-1", x, x.price(0, -1), 1);
        c.good("as it was", x, x.told(6), 11);
        c.good("as it was", x, x.told(7), 2);
    }

    private void builds() {
        d.promises(28, "A WALL is built, or torn down (1; 7: somebody is there, or it is so).");
        LaterPrints x = c.with(SCENE);
        c.bad("somebody is there", x, x.build(0, 0, true), 7);
        c.bad("somebody is there", x, x.build(0, 0, false), 7);
        c.bad("it is so", x, x.build(5, 4, true), 7);
        c.bad("it is so", x, x.build(4, 4, false), 7);
        int[][] no = {{-1, 0}, {6, 0}, {0, -1}, {0, 5}};
        for (int[] cell : no) {
            c.bad("no cell", x, x.build(cell[0], cell[1], true), 1);
            c.bad("no cell", x, x.build(cell[0], cell[1], false), 1);
        }
        c.good("built", x, x.build(5, 3, true));
        c.good("torn down", x, x.build(5, 4, false));
        c.good("a wall", x, x.wall(5, 3), 1);
        c.good("none", x, x.wall(5, 4), 0);
        c.good("one", x, x.told(11), 1);
        c.good("where somebody will come", x, x.build(2, 0, true));
        LaterPrints y = c.with("scene 6 by 5;");
        for (int cell = 0; cell < 30; cell++) {
            c.good("every cell", y, y.build(cell % 6, cell / 6, true));
        }
        c.good("thirty", y, y.told(11), 30);
    }

    private void teaches() {
        d.promises(29, "A PERSON's k-th STEP is another one (0 to 4) (1: no such k, too).");
        LaterPrints x = c.with("scene 6 by 5;person a at 2 2 goes east;person b at 0 4 goes east south west north rest east south west;");
        for (int step = 0; step <= 4; step++) {
            c.good("step " + step, x, x.teach(0, 0, step));
            c.good("step " + step, x, x.stepOf(0, 0), step);
            c.good("it is gone by", x, x.placeIn(0, 1), new int[] {23, 32, 21, 12, 22}[step]);
        }
        int[] b = {0, 1, 2, 3, 4, 0, 1, 2};
        for (int k = 0; k < 8; k++) {
            c.good("b's " + k, x, x.teach(1, k, 4 - b[k]));
            b[k] = 4 - b[k];
            for (int other = 0; other < 8; other++) {
                c.good("b's " + other, x, x.stepOf(1, other), b[other]);
            }
        }
        c.good("a's stays", x, x.stepOf(0, 0), 4);
        c.bad("no such k", x, x.teach(0, 1, 0), 1);
        c.bad("no such k", x, x.teach(1, 8, 0), 1);
        c.bad("no such k", x, x.teach(0, -1, 0), 1);
        c.bad("no such step", x, x.teach(0, 0, 5), 1);
        c.bad("no such step", x, x.teach(0, 0, -1), 1);
        c.bad("nobody", x, x.teach(2, 0, 0), 1);
        c.bad("nobody", x, x.teach(-1, 0, 0), 1);
        c.good("the same again is fine", x, x.teach(0, 0, 4));
    }

    private void places() {
        d.promises(30, "A PERSON that is there is put in a CELL (1; 7: not there, a WALL, somebody is there, himself too).");
        LaterPrints x = c.with("scene 6 by 5;wall 5 4;person a at 0 0 leaves 2 goes rest;person b at 2 0 comes 1 goes rest;");
        c.bad("himself", x, x.place(0, 0, 0), 7);
        c.bad("a wall", x, x.place(0, 5, 4), 7);
        c.bad("not there yet", x, x.place(1, 3, 3), 7);
        c.bad("not there yet, his own cell", x, x.place(1, 2, 0), 7);
        c.bad("nobody", x, x.place(2, 1, 1), 1);
        c.bad("nobody", x, x.place(-1, 1, 1), 1);
        int[][] no = {{-1, 0}, {6, 0}, {0, -1}, {0, 5}};
        for (int[] cell : no) {
            c.bad("no cell", x, x.place(0, cell[0], cell[1]), 1);
        }
        c.good("far off", x, x.place(0, 4, 4));
        c.good("there", x, x.who(4, 4), 0);
        c.bad("not here", x, x.who(0, 0), 6);
        c.good("a cell where somebody will come", x, x.place(0, 2, 0));
        x.skip(1);
        c.bad("b waits", x, x.person(1, 0), 6);
        c.good("off", x, x.place(0, 3, 0));
        x.skip(1);
        c.good("b is there", x, x.who(2, 0), 1);
        c.bad("a is gone", x, x.place(0, 0, 0), 7);
        LaterPrints y = c.with("scene 2 by 1;person a at 0 0 goes rest;person b at 1 0 goes rest;");
        c.bad("somebody is there", y, y.place(0, 1, 0), 7);
        c.good("as it was", y, y.who(0, 0), 0);
    }

    private void costs() {
        d.promises(31, "PRICE of a PRINT, from 1 on (1: above 999, too).");
        LaterPrints x = c.with(SCENE);
        c.good("1", x, x.priceOf(1), 10);
        c.good("999", x, x.priceOf(999), 10 + 998 * 3);
        c.bad("0", x, x.priceOf(0), 1);
        c.bad("1,000", x, x.priceOf(1000), 1);
        c.bad("far below", x, x.priceOf(Integer.MIN_VALUE), 1);
        c.bad("far above", x, x.priceOf(Integer.MAX_VALUE), 1);
        x.skip(5);
        c.good("a print that is made", x, x.priceOf(1), 10);
        d.promises(32, "What so many (0 to 200) PRINTS more cost together (1).");
        c.good("0", x, x.costOf(0), 0);
        c.good("1", x, x.costOf(1), 25);
        c.good("2", x, x.costOf(2), 53);
        c.good("200", x, x.costOf(200), 200 * 25 + 3 * 199 * 100);
        c.bad("-1", x, x.costOf(-1), 1);
        c.bad("201", x, x.costOf(201), 1);
        SecondsEdges.skipTo(x, 999);
        x.price(99, 20);
        c.good("the dearest", x, x.costOf(200), 200 * (99 + 999 * 20) + 20 * 199 * 100);
    }

    private void whereAndWho() {
        d.promises(33, "Where a PERSON is in so many SECONDS (0 to 200), as 10 times the row and the column (1; 6: not there).");
        LaterPrints x = c.with("scene 6 by 5;person a at 5 3 goes south;person b at 0 0 comes 2 leaves 4 goes rest;sight s of b at 0 0;"
            + "sight t empty;");
        c.good("now", x, x.placeIn(0, 0), 35);
        c.good("1", x, x.placeIn(0, 1), 45);
        c.good("200", x, x.placeIn(0, 200), 45);
        c.bad("201", x, x.placeIn(0, 201), 1);
        c.bad("-1", x, x.placeIn(0, -1), 1);
        c.bad("nobody", x, x.placeIn(2, 0), 1);
        c.bad("nobody", x, x.placeIn(-1, 0), 1);
        int[] b = {-1, -1, 0, 0, -1, -1};
        for (int seconds = 0; seconds < b.length; seconds++) {
            c.due("b in " + seconds, x.placeIn(1, seconds), b[seconds]);
            c.due("status", x.status(), b[seconds] < 0 ? 6 : 0);
        }
        d.promises(34, "Who is in a CELL in so many SECONDS (0 to 200) (1; 6: nobody).");
        c.good("now", x, x.whoIn(5, 3, 0), 0);
        c.bad("nobody", x, x.whoIn(5, 3, 1), 6);
        c.good("200", x, x.whoIn(5, 4, 200), 0);
        c.bad("b is not there yet", x, x.whoIn(0, 0, 1), 6);
        c.good("b", x, x.whoIn(0, 0, 2), 1);
        c.bad("b is gone", x, x.whoIn(0, 0, 4), 6);
        c.bad("201", x, x.whoIn(0, 0, 201), 1);
        c.bad("-1", x, x.whoIn(0, 0, -1), 1);
        int[][] no = {{-1, 0}, {6, 0}, {0, -1}, {0, 5}};
        for (int[] cell : no) {
            c.bad("no cell", x, x.whoIn(cell[0], cell[1], 0), 1);
        }
        d.promises(35, "The set of SIGHTS that PRINT shows which is made in so many SECONDS (0 to 200) (1).");
        int[] shown = {0, 0, 1, 1, 0};
        for (int seconds = 0; seconds < shown.length; seconds++) {
            c.good("in " + seconds, x, x.showsIn(seconds), shown[seconds]);
        }
        c.good("200", x, x.showsIn(200), 0);
        c.bad("201", x, x.showsIn(201), 1);
        c.bad("-1", x, x.showsIn(-1), 1);
    }

    private void firsts() {
        d.promises(36, "FIRST of a SIGHT, as so many PRINTS more (1 to 200) (1; 6: none).");
        String at = "price 2 rises 1;scene 1 by 1;person a at 0 0 leaves # goes rest;sight t of a at 0 0;sight s empty;";
        LaterPrints x = c.with(at.replace("#", "1"));
        c.good("1", x, x.first(1), 1);
        c.bad("none", x, x.first(0), 6);
        LaterPrints y = c.with(at.replace("#", "200"));
        c.good("200", y, y.first(1), 200);
        c.good("1", y, y.first(0), 1);
        LaterPrints z = c.with(at.replace("#", "201"));
        c.bad("none", z, z.first(1), 6);
        c.bad("no such", z, z.first(2), 1);
        c.bad("no such", z, z.first(-1), 1);
        d.promises(37, "COST (1; 6).");
        c.good("1", x, x.cost(1), 2);
        c.good("200", y, y.cost(1), 400 + 199 * 100);
        c.bad("none", z, z.cost(1), 6);
        c.bad("no such", z, z.cost(2), 1);
        c.bad("no such", z, z.cost(-1), 1);
        z.skip(1);
        c.good("by the price of now", z, z.cost(1), 600 + 199 * 100);
    }

    private void often() {
        d.promises(38, "How many of the next n (1 to 200) PRINTS show a SIGHT (1).");
        String at = "scene 2 by 1;person a at 0 0 leaves 200 goes rest rest east west;sight s of a at 0 0;sight t empty;"
            + "sight u of a at 1 0;";
        LaterPrints x = c.with(at);
        c.good("1", x, x.often(0, 1), 1);
        c.good("2", x, x.often(0, 2), 2);
        c.good("3", x, x.often(0, 3), 2);
        c.good("200, of which 199 show him", x, x.often(0, 200), 199 - 50);
        c.good("199", x, x.often(1, 199), 0);
        c.good("200", x, x.often(1, 200), 1);
        c.bad("0", x, x.often(0, 0), 1);
        c.bad("201", x, x.often(0, 201), 1);
        c.bad("no such", x, x.often(3, 1), 1);
        c.bad("no such", x, x.often(-1, 1), 1);
        LaterPrints now = c.with("scene 1 by 1;person a at 0 0 leaves 1 goes rest;sight s of a at 0 0;");
        c.good("what is shown now does not count", now, now.often(0, 200), 0);
        d.promises(39, "The longest row of PRINTS one behind the other, of the next n (1 to 200), that all show a SIGHT "
            + "(0: none does) (1).");
        LaterPrints fresh = c.with(at);
        c.good("4, asked first of all", fresh, fresh.longest(0, 4), 2);
        c.good("1", x, x.longest(0, 1), 1);
        c.good("5", x, x.longest(0, 5), 2);
        c.good("over the end of a round", x, x.longest(0, 6), 3);
        c.good("200", x, x.longest(0, 200), 3);
        c.good("none does", x, x.longest(1, 199), 0);
        c.good("the last one", x, x.longest(1, 200), 1);
        c.good("one by one", x, x.longest(2, 200), 1);
        c.bad("0", x, x.longest(0, 0), 1);
        c.bad("201", x, x.longest(0, 201), 1);
        c.bad("no such", x, x.longest(3, 1), 1);
        c.bad("no such", x, x.longest(-1, 1), 1);
        c.good("what is shown now does not count", now, now.longest(0, 200), 0);
        LaterPrints all = c.with("scene 1 by 1;sight s empty;");
        c.good("all of them", all, all.longest(0, 200), 200);
        c.good("all of them", all, all.often(0, 200), 200);
    }

    private void gone() {
        d.promises(40, "GONE of a PERSON, as so many PRINTS more (1; 6: there in the 200th).");
        LaterPrints x = c.with("scene 3 by 1;person a at 0 0 leaves 200 goes rest;person b at 1 0 leaves 201 goes rest;"
            + "person e at 2 0 leaves 1 goes rest;");
        c.good("not in the 200th", x, x.gone(0), 200);
        c.bad("there in the 200th", x, x.gone(1), 6);
        c.good("not in the next one", x, x.gone(2), 1);
        c.bad("nobody", x, x.gone(3), 1);
        c.bad("nobody", x, x.gone(-1), 1);
        x.skip(1);
        c.good("gone already", x, x.gone(2), 1);
        c.good("not in the 200th from now", x, x.gone(1), 200);
        LaterPrints y = c.with("scene 1 by 1;person a at 0 0 comes 99 leaves 101 goes rest;");
        c.good("there for two prints", y, y.gone(0), 101);
    }

    private void again() {
        d.promises(41, "In how many SECONDS (1 to 200) the SCENE, with all who are in it and where, is first as it is now "
            + "(who is gone, who is there, all CELLS; STEPS and WALLS do not matter) (6: not).");
        LaterPrints x = c.with("scene 2 by 1;person a at 0 0 goes rest;");
        c.good("1", x, x.again(), 1);
        LaterPrints y = c.with("scene 2 by 1;person a at 0 0 goes east west;");
        c.good("2, though the steps are at another place by 1", y, y.again(), 2);
        LaterPrints z = c.with("scene 2 by 1;person a at 0 0 goes east rest;");
        c.bad("not", z, z.again(), 6);
        z.skip(1);
        c.good("as it is now, not as it was", z, z.again(), 1);
        LaterPrints w = c.with("scene 2 by 1;person a at 0 0 comes 1 leaves 2 goes rest;");
        c.bad("one who is gone is not one to come", w, w.again(), 6);
        w.skip(1);
        c.bad("there", w, w.again(), 6);
        w.skip(1);
        c.good("gone", w, w.again(), 1);
        LaterPrints v = c.with("scene 2 by 1;person a at 0 0 comes 2 goes rest;");
        c.good("still to come", v, v.again(), 1);
        v.skip(1);
        c.bad("there by then", v, v.again(), 6);
        // a is back each 8th second, b each 5th, e in two of each 7: all three first in the 200th.
        String far = "scene 6 by 4;person a at 0 0 goes east east east east west west west west;"
            + "person b at 0 1 goes east rest rest rest west;person e at 0 2 goes east rest rest west east rest west;";
        LaterPrints u = c.with(far);
        c.good("200", u, u.again(), 200);
        LaterPrints t = c.with("scene 6 by 4;person a at 0 0 goes east east east east west west west west;"
            + "person b at 0 1 goes east rest rest rest west;person e at 0 2 goes east rest rest rest rest rest west;");
        c.bad("280", t, t.again(), 6);
    }

    private void stays() {
        d.promises(42, "How many of the next n (1 to 200) SECONDS a PERSON that is there at both their ends stays in his CELL (1).");
        LaterPrints x = c.with("scene 2 by 1;person a at 0 0 goes east rest;person b at 1 0 comes 9 leaves 12 goes rest;");
        c.good("the first second he goes", x, x.stays(0, 1), 0);
        c.good("then he stays", x, x.stays(0, 2), 1);
        c.good("the edge keeps him, too", x, x.stays(0, 200), 199);
        c.good("b waits outside", x, x.stays(1, 200), 0);
        LaterPrints y = c.with("scene 2 by 1;person b at 1 0 comes 9 leaves 12 goes rest;");
        c.good("not as he comes, nor as he leaves", y, y.stays(0, 200), 2);
        c.good("he comes", y, y.stays(0, 9), 0);
        c.good("he stays", y, y.stays(0, 10), 1);
        LaterPrints z = c.with("scene 1 by 1;person a at 0 0 goes east;");
        c.good("all of them", z, z.stays(0, 200), 200);
        c.bad("0", z, z.stays(0, 0), 1);
        c.bad("201", z, z.stays(0, 201), 1);
        c.bad("nobody", z, z.stays(1, 1), 1);
        c.bad("nobody", z, z.stays(-1, 1), 1);
    }
}
