/** Promises 22 to 30: buy, skip, give, back, earn, price, build, teach, place. */
public final class DoneTest {
    private static final Check C = new Check();
    private static final String SCENE = "price 10 rises 3;scene 4 by 2;wall 3 1;person a at 0 0 goes east west;"
        + "person b at 2 0 comes 5 goes rest;buyer p coins 50;buyer q;";

    public static void main(String[] args) {
        buys();
        buyRefused();
        buysToTheLastSecond();
        onlyTheFirst120AreKept();
        skips();
        gives();
        sellsBack();
        earns();
        prices();
        builds();
        teaches();
        places();
        C.end();
    }

    private static void buys() {
        LaterPrints x = C.with(SCENE);
        // 10, 13 and 16 make 39; 19 is too dear then.
        C.good("as long as coins last", x, x.buy(0, 99), 3);
        C.good("coins", x, x.coins(0), 11);
        C.good("second", x, x.told(5), 3);
        C.good("a has gone on", x, x.person(0, 0), 1);
        C.bad("none", x, x.buy(0, 1), 7);
        C.good("nothing has changed", x, x.told(5), 3);
        C.good("the other one", x, x.buy(1, 2), 2);
        C.good("coins", x, x.coins(1), 59);
        C.good("owner", x, x.owner(3), 0);
        C.good("owner", x, x.owner(5), 1);
        C.good("owned", x, x.told(13), 5);
        LaterPrints y = C.with("price 5 rises 0;buyer p coins 10;");
        C.good("the last coin", y, y.buy(0, 5), 2);
        C.good("coins", y, y.coins(0), 0);
        LaterPrints z = C.with("price 0 rises 0;buyer p coins 0;");
        C.good("for nothing", z, z.buy(0, 99), 99);
    }

    private static void buyRefused() {
        LaterPrints x = C.with(SCENE);
        C.bad("no such", x, x.buy(2, 1), 1);
        C.bad("no such", x, x.buy(-1, 1), 1);
        C.bad("0", x, x.buy(0, 0), 1);
        C.bad("100", x, x.buy(0, 100), 1);
        C.bad("-1", x, x.buy(0, -1), 1);
        C.good("second", x, x.told(5), 0);
    }

    private static void buysToTheLastSecond() {
        LaterPrints x = C.with("price 0 rises 0;scene 1 by 1;buyer p coins 1;");
        for (int i = 0; i < 10; i++) {
            x.skip(99);
        }
        C.good("990", x, x.told(5), 990);
        C.bad("beyond", x, x.skip(10), 4);
        C.good("nothing has changed", x, x.told(5), 990);
        C.good("as many as there are", x, x.buy(0, 99), 9);
        C.good("999", x, x.told(5), 999);
        C.bad("none", x, x.buy(0, 1), 7);
        C.bad("beyond", x, x.skip(1), 4);
        C.bad("beyond", x, x.skip(99), 4);
        C.bad("1 ahead of 4", x, x.skip(100), 1);
        C.bad("print 999 is of nobody", x, x.owner(999), 6);
        C.bad("not made", x, x.owner(1000), 1);
    }

    private static void onlyTheFirst120AreKept() {
        LaterPrints x = C.with("price 1 rises 0;scene 1 by 1;buyer p coins 500;buyer q;");
        x.buy(0, 99);
        x.buy(0, 99);
        C.good("paid", x, x.coins(0), 302);
        C.good("kept", x, x.prints(0), 120);
        C.good("kept", x, x.told(13), 120);
        C.good("120", x, x.owner(120), 0);
        C.bad("121", x, x.owner(121), 6);
        C.bad("can't be given", x, x.give(121, 1), 7);
        C.bad("can't be sold", x, x.back(0, 121), 7);
        C.good("given", x, x.give(120, 1), 0);
    }

    private static void skips() {
        LaterPrints x = C.with(SCENE);
        C.good("skip", x, x.skip(1), 1);
        C.good("skip", x, x.skip(98), 99);
        C.good("skip", x, x.skip(99), 198);
        C.bad("0", x, x.skip(0), 1);
        C.bad("-5", x, x.skip(-5), 1);
        C.bad("100", x, x.skip(100), 1);
        C.good("thrown away", x, x.told(13), 0);
        C.good("for nothing", x, x.told(12), 150);
        C.good("price", x, x.told(6), 10 + 198 * 3);
    }

    private static void gives() {
        LaterPrints x = C.with(SCENE);
        x.buy(0, 2);
        x.skip(1);
        C.good("give", x, x.give(1, 1), 0);
        C.good("whose", x, x.owner(1), 1);
        C.good("prints", x, x.prints(0), 1);
        C.good("prints", x, x.prints(1), 1);
        C.bad("his own", x, x.give(1, 1), 7);
        C.bad("nobody's", x, x.give(3, 1), 7);
        C.bad("not made", x, x.give(4, 1), 1);
        C.bad("print 0", x, x.give(0, 1), 1);
        C.bad("no buyer", x, x.give(1, 2), 1);
        C.bad("no buyer", x, x.give(1, -1), 1);
        C.good("back again", x, x.give(1, 0), 1);
        C.good("no coins for it", x, x.coins(0), 27);
    }

    private static void sellsBack() {
        LaterPrints x = C.with(SCENE);
        x.buy(0, 2);
        C.bad("not his", x, x.back(1, 2), 7);
        C.bad("no buyer", x, x.back(2, 2), 1);
        C.bad("no buyer", x, x.back(-1, 2), 1);
        C.bad("not made", x, x.back(0, 3), 1);
        C.bad("print 0", x, x.back(0, 0), 1);
        C.good("half of 13", x, x.back(0, 2), 33);
        C.bad("nobody's", x, x.owner(2), 6);
        C.bad("not his any more", x, x.back(0, 2), 7);
        C.good("price", x, x.price(99, 0));
        C.good("by the price of now", x, x.back(0, 1), 33 + 49);
        LaterPrints y = C.with("price 50 rises 0;buyer p coins 9999;");
        y.buy(0, 1);
        for (int i = 0; i < 3; i++) {
            y.earn(0, 15);
        }
        C.good("coins", y, y.coins(0), 9994);
        C.good("9,999 at most", y, y.back(0, 1), 9999);
    }

    private static void earns() {
        LaterPrints x = C.with("buyer p coins 9000;buyer q;");
        C.good("earn", x, x.earn(1, 1), 101);
        C.good("earn", x, x.earn(0, 999), 9999);
        C.bad("above", x, x.earn(0, 1), 7);
        C.good("stays", x, x.coins(0), 9999);
        C.bad("0", x, x.earn(1, 0), 1);
        C.bad("1000", x, x.earn(1, 1000), 1);
        C.bad("-1", x, x.earn(1, -1), 1);
        C.bad("no buyer", x, x.earn(2, 1), 1);
        C.bad("1 ahead of 7", x, x.earn(0, 1000), 1);
    }

    private static void prices() {
        LaterPrints x = C.with(SCENE);
        x.skip(2);
        C.good("price", x, x.price(99, 20));
        C.good("next", x, x.told(6), 139);
        C.good("rises", x, x.told(7), 20);
        C.good("price", x, x.price(0, 0));
        C.good("next", x, x.told(6), 0);
        C.bad("first", x, x.price(100, 0), 1);
        C.bad("first", x, x.price(-1, 0), 1);
        C.bad("rises", x, x.price(0, 21), 1);
        C.bad("rises", x, x.price(0, -1), 1);
        C.good("rises", x, x.told(7), 0);
    }

    private static void builds() {
        LaterPrints x = C.with(SCENE);
        C.bad("it is so", x, x.build(3, 1, true), 7);
        C.bad("it is so", x, x.build(0, 1, false), 7);
        C.bad("somebody is there", x, x.build(0, 0, true), 7);
        C.bad("outside", x, x.build(4, 0, true), 1);
        C.bad("outside", x, x.build(0, 2, false), 1);
        C.bad("outside", x, x.build(-1, 0, true), 1);
        C.good("walls", x, x.told(11), 1);
        C.good("build", x, x.build(1, 0, true));
        C.good("wall", x, x.wall(1, 0), 1);
        C.good("walls", x, x.told(11), 2);
        x.skip(1);
        C.good("a can't go there", x, x.person(0, 0), 0);
        C.good("tear down", x, x.build(3, 1, false));
        C.good("none", x, x.wall(3, 1), 0);
        C.good("where somebody will come", x, x.build(2, 0, true));
        x.skip(6);
        C.bad("he waits", x, x.person(1, 0), 6);
    }

    private static void teaches() {
        LaterPrints x = C.with(SCENE);
        C.good("teach", x, x.teach(0, 0, 1));
        C.good("south", x, x.stepOf(0, 0), 1);
        C.good("the other one stays", x, x.stepOf(0, 1), 2);
        x.skip(1);
        C.good("row", x, x.person(0, 1), 1);
        C.good("not there yet", x, x.teach(1, 0, 4));
        C.bad("no such k", x, x.teach(0, 2, 1), 1);
        C.bad("no such k", x, x.teach(0, -1, 1), 1);
        C.bad("no such step", x, x.teach(0, 0, 5), 1);
        C.bad("no such step", x, x.teach(0, 0, -1), 1);
        C.bad("no such person", x, x.teach(2, 0, 0), 1);
        C.bad("no such person", x, x.teach(-1, 0, 0), 1);
        C.good("stays", x, x.stepOf(0, 0), 1);
    }

    private static void places() {
        LaterPrints x = C.with(SCENE);
        C.good("place", x, x.place(0, 2, 1));
        C.good("there", x, x.who(2, 1), 0);
        C.bad("nobody", x, x.who(0, 0), 6);
        C.bad("himself", x, x.place(0, 2, 1), 7);
        C.bad("a wall", x, x.place(0, 3, 1), 7);
        C.bad("not there", x, x.place(1, 0, 0), 7);
        C.bad("no cell", x, x.place(0, 4, 0), 1);
        C.bad("no cell", x, x.place(0, 0, -1), 1);
        C.bad("no person", x, x.place(2, 0, 0), 1);
        x.place(0, 0, 1);
        x.skip(5);
        C.good("b has come", x, x.who(2, 0), 1);
        C.bad("somebody is there", x, x.place(0, 2, 0), 7);
        C.good("stays", x, x.placeIn(0, 0), 11);
    }
}
