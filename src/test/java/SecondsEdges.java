/** The sentences of ==== 2: how a second goes by, and what becomes of its print. */
final class SecondsEdges {
    private final Check c;
    private final Doc d;

    SecondsEdges(Check c, Doc d) {
        this.c = c;
        this.d = d;
    }

    void all() {
        calls512();
        goesBy();
        comes();
        leaves();
        steps();
        neverThere();
        prints();
        buySkipGive();
        kept();
    }

    /** Where somebody is from this second on, -1 where he is not there; the same by what is done as by what would be. */
    private void way(LaterPrints x, int person, int... cells) {
        x.mark();
        for (int k = 0; k < cells.length; k++) {
            c.due("person " + person + " now, in " + k, x.placeIn(person, 0), cells[k]);
            c.due("status", x.status(), cells[k] < 0 ? 6 : 0);
            x.skip(1);
        }
        x.undo();
        for (int k = 0; k < cells.length; k++) {
            c.due("person " + person + " in " + k, x.placeIn(person, k), cells[k]);
            c.due("status", x.status(), cells[k] < 0 ? 6 : 0);
        }
    }

    static void skipTo(LaterPrints x, int second) {
        for (int i = 0; i < 999 && x.told(5) < second; i++) {
            x.skip(Math.min(99, second - x.told(5)));
        }
    }

    private void calls512() {
        d.says("An object is used for at most 512 calls after it has been made; what later calls answer is free.");
        LaterPrints x = new LaterPrints();
        Check.feed(x, "buyer a coins 511;price 1 rises 0;      ");
        x.scene(40);
        for (int call = 4; call <= 512; call++) {
            boolean isBuy = call % 2 == 0;
            c.due("call " + call, isBuy ? x.buy(0, 1) : x.coins(0), isBuy ? 1 : 511 - (call - 3) / 2 - (call - 3) % 2);
        }
    }

    private void goesBy() {
        d.says("A SECOND goes by (to 999), PERSON by PERSON, by numbers; let s be the SECOND ahead of it:");
        LaterPrints x = c.with("scene 3 by 1;person a at 1 0 goes east;person b at 0 0 goes east;");
        way(x, 0, 1, 2, 2);
        way(x, 1, 0, 1, 1);
        LaterPrints y = c.with("scene 3 by 1;person b at 0 0 goes east;person a at 1 0 goes east;");
        way(y, 0, 0, 0, 1);
        way(y, 1, 1, 2, 2);
        // Four in a ring: who goes first finds the next one in his way, the last one too, as the first has not gone.
        LaterPrints z = c.with("scene 2 by 2;person a at 0 0 goes east;person b at 1 0 goes south;person c at 1 1 goes west;"
            + "person d at 0 1 goes north;");
        for (int p = 0; p < 4; p++) {
            c.good("in a ring", z, z.placeIn(p, 200), new int[] {0, 1, 11, 10}[p]);
        }
        skipTo(x, 999);
        c.good("999", x, x.told(5), 999);
        c.bad("no second more", x, x.skip(1), 4);
        c.good("999", x, x.told(5), 999);
        d.says("Then the SECOND is 1 more.");
        LaterPrints w = c.with("buyer a;");
        for (int second = 1; second <= 3; second++) {
            c.good("skip", w, w.skip(1), second);
            c.good("second", w, w.told(5), second);
        }
        c.good("buy", w, w.buy(0, 2), 2);
        c.good("second", w, w.told(5), 5);
    }

    private void comes() {
        d.says("who is not there yet and COMES in s and 1 or earlier: is there AT his CELL, if nobody is there now, "
            + "no WALL (else he waits outside);");
        way(c.with("scene 3 by 1;person a at 0 0 comes 1 goes east;"), 0, -1, 0, 1, 2, 2);
        way(c.with("scene 3 by 1;person a at 0 0 comes 2 goes east;"), 0, -1, -1, 0, 1, 2);
        way(c.with("scene 3 by 1;person a at 0 0 goes east;"), 0, 0, 1, 2, 2);
        LaterPrints x = c.with("scene 1 by 1;person a at 0 0 comes 99 goes rest;");
        c.bad("98", x, x.placeIn(0, 98), 6);
        c.good("99", x, x.placeIn(0, 99), 0);
        LaterPrints z = c.with("scene 3 by 1;person b at 0 0 goes east rest rest rest;person a at 1 0 comes 1 goes rest;"
            + "person e at 2 0 comes 3 goes west;");
        way(z, 1, -1, -1, -1, -1, -1, -1);
        way(z, 2, -1, -1, -1, 2, 2);
        // The higher number finds the cell taken, or free, as the lower one has left it by then.
        LaterPrints w = c.with("scene 3 by 1;person a at 0 0 goes east west;person b at 1 0 comes 2 goes rest;");
        way(w, 0, 0, 1, 0, 0);
        way(w, 1, -1, -1, 1, 1);
        LaterPrints v = c.with("scene 3 by 1;person b at 1 0 comes 2 goes rest;person a at 0 0 goes east west rest rest;");
        way(v, 0, -1, -1, -1, 1, 1);
        way(v, 1, 0, 1, 0, 0, 0);
        LaterPrints u = c.with("scene 2 by 1;person a at 0 0 comes 1 goes rest;");
        c.good("a wall where he comes", u, u.build(0, 0, true));
        u.skip(3);
        c.bad("he waits", u, u.person(0, 0), 6);
        c.good("he is not gone", u, u.told(9), 0);
        c.good("torn down", u, u.build(0, 0, false));
        u.skip(1);
        c.good("he is there", u, u.who(0, 0), 0);
    }

    private void leaves() {
        d.says("who is there and LEAVES in s and 1 or earlier is gone for good;");
        LaterPrints x = c.with("scene 2 by 1;person a at 0 0 leaves 1 goes east;person b at 1 0 leaves 2 goes west;");
        way(x, 0, 0, -1, -1, -1);
        way(x, 1, 1, 0, -1, -1);
        c.good("not gone", x, x.told(9), 0);
        x.skip(1);
        c.good("a", x, x.told(9), 1);
        x.skip(1);
        c.good("both", x, x.told(9), 3);
        skipTo(x, 999);
        c.good("for good", x, x.told(9), 3);
        c.bad("can't be placed", x, x.place(0, 0, 0), 7);
        LaterPrints y = c.with("scene 1 by 1;person a at 0 0 leaves 999 goes rest;");
        skipTo(y, 998);
        c.good("there in 998", y, y.told(8), 1);
        y.skip(1);
        c.good("gone in 999", y, y.told(9), 1);
        LaterPrints z = c.with("scene 1 by 1;person a at 0 0 comes 1 leaves 2 goes rest;");
        way(z, 0, -1, 0, -1, -1);
    }

    private void steps() {
        d.says("who is there else does the STEP of the place s of his STEPS, round and round (0 the first): into the CELL beside, "
            + "if it is in the SCENE, no WALL, and nobody stands there now; else he stays.");
        way(c.with("scene 4 by 1;person a at 0 0 goes east east west;"), 0, 0, 1, 2, 1, 2, 3, 2, 3, 3, 2);
        // He comes in 2: place 2 is the third of his steps, then the first again.
        way(c.with("scene 4 by 1;person a at 1 0 comes 2 goes east east west;"), 0, -1, -1, 1, 0, 1, 2, 1);
        String eight = "east south west north rest east west rest";
        way(c.with("scene 2 by 2;person a at 0 0 goes " + eight + ";"), 0, 0, 1, 11, 10, 0, 0, 1, 0, 0, 1, 11);
        String[] words = {"east", "south", "west", "north"};
        int[] edges = {45, 45, 0, 0};
        for (int step = 0; step < 4; step++) {
            LaterPrints x = c.with("scene 6 by 5;person a at " + edges[step] % 10 + " " + edges[step] / 10 + " goes " + words[step] + ";");
            way(x, 0, edges[step], edges[step], edges[step]);
        }
        int[] beside = {23, 32, 21, 12};
        for (int step = 0; step < 4; step++) {
            String cell = beside[step] % 10 + " " + beside[step] / 10;
            String person = "person a at 2 2 goes " + words[step] + ";";
            way(c.with("scene 6 by 5;wall " + cell + ";" + person), 0, 22, 22, 22);
            way(c.with("scene 6 by 5;person b at " + cell + " goes rest;" + person), 1, 22, 22, 22);
            way(c.with("scene 6 by 5;" + person), 0, 22, beside[step]);
            // One who is gone, or not there yet, stands nowhere.
            way(c.with("scene 6 by 5;person b at " + cell + " leaves 1 goes rest;" + person), 1, 22, beside[step]);
            way(c.with("scene 6 by 5;person b at " + cell + " comes 9 goes rest;" + person), 1, 22, beside[step]);
        }
        // From the last row to the first there is no way round, nor from a row's end to the next row.
        way(c.with("scene 6 by 5;person a at 5 0 goes east;"), 0, 5, 5);
        way(c.with("scene 6 by 5;person a at 0 1 goes west;"), 0, 10, 10);
        way(c.with("scene 1 by 5;person a at 0 4 goes north north north north north;"), 0, 40, 30, 20, 10, 0, 0);
        LaterPrints y = c.with("scene 2 by 1;person a at 0 0 goes east west;");
        skipTo(y, 998);
        c.good("998", y, y.person(0, 0), 0);
        y.skip(1);
        c.good("999", y, y.person(0, 0), 1);
    }

    private void neverThere() {
        d.says("(Who LEAVES no later than he COMES never is there, once the SECOND is so far; "
            + "one who LEAVES while he waits outside never comes.)");
        LaterPrints x = c.with("scene 3 by 1;person a at 0 0 comes 2 leaves 2 goes rest;person b at 1 0 comes 3 leaves 1 goes rest;"
            + "person e at 2 0 comes 2 leaves 3 goes rest;");
        way(x, 0, -1, -1, -1, -1, -1);
        way(x, 1, -1, -1, -1, -1, -1);
        way(x, 2, -1, -1, 2, -1, -1);
        skipTo(x, 3);
        c.good("all are gone", x, x.told(9), 7);
        LaterPrints y = c.with("scene 2 by 1;person a at 0 0 goes east rest rest rest;person b at 1 0 comes 1 leaves 3 goes rest;");
        skipTo(y, 2);
        c.good("b waits", y, y.told(9), 0);
        y.place(0, 0, 0);
        way(y, 1, -1, -1, -1);
        y.skip(1);
        c.good("b is gone", y, y.told(9), 2);
        c.good("b never comes", y, y.gone(1), 1);
        LaterPrints z = c.with("scene 2 by 1;person a at 0 0 goes east west;person b at 1 0 comes 1 leaves 3 goes rest;");
        way(z, 1, -1, -1, 1, -1);
    }

    private void prints() {
        d.says("PRINT k shows SECOND k, from 1 on.");
        LaterPrints x = c.with("scene 3 by 1;person a at 0 0 goes east;sight s of a at 0 0;sight t of a at 1 0;buyer p;");
        c.bad("no print 0", x, x.owner(0), 1);
        c.bad("no price of print 0", x, x.priceOf(0), 1);
        c.good("print 1 shows second 1, not second 0", x, x.showsIn(1), 2);
        x.buy(0, 1);
        c.good("print 1", x, x.owner(1), 0);
        c.good("second 1", x, x.told(10), 2);
        d.says("Prints are made in order: SECOND is how many are made.");
        x.skip(2);
        x.buy(0, 1);
        c.good("second", x, x.told(5), 4);
        c.good("print 4", x, x.owner(4), 0);
        c.bad("print 5 is not made", x, x.owner(5), 1);
        d.says("PRICE of PRINT k: that of the first one, and k less 1 times what it RISES.");
        LaterPrints y = c.with("price 99 rises 20;");
        c.good("1", y, y.priceOf(1), 99);
        c.good("2", y, y.priceOf(2), 119);
        c.good("999", y, y.priceOf(999), 99 + 998 * 20);
        LaterPrints z = c.with("price 0 rises 0;");
        c.good("for nothing", z, z.priceOf(999), 0);
        skipTo(z, 999);
        z.price(99, 20);
        c.good("the next one behind the last", z, z.told(6), 99 + 999 * 20);
    }

    private void buySkipGive() {
        d.says("BUY: a BUYER buys the next print (a SECOND goes by), for its PRICE.");
        LaterPrints x = c.with("price 3 rises 2;scene 3 by 1;person a at 0 0 goes east;buyer p coins 8;buyer q coins 3;");
        c.good("buy", x, x.buy(0, 2), 2);
        c.good("3 and 5", x, x.coins(0), 0);
        c.good("a second went by with each", x, x.person(0, 0), 2);
        c.bad("7 is too dear", x, x.buy(1, 1), 7);
        c.good("nothing paid", x, x.coins(1), 3);
        c.good("nothing went by", x, x.told(5), 2);
        d.says("SKIP: it is made, and thrown away.");
        c.good("skip", x, x.skip(1), 3);
        c.bad("nobody's", x, x.owner(3), 6);
        c.good("nothing paid", x, x.told(12), 3);
        d.says("GIVE: a PRINT goes from whom it is to another BUYER.");
        c.good("give", x, x.give(1, 1), 0);
        c.good("q's", x, x.owner(1), 1);
        c.bad("to himself", x, x.give(1, 1), 7);
        c.bad("a print thrown away", x, x.give(3, 1), 7);
        c.good("nothing paid", x, x.told(12), 3);
    }

    private void kept() {
        d.says("PRINTS are of whom they are (at most the first 120 are kept so; later ones are of nobody).");
        LaterPrints x = c.with("price 1 rises 0;buyer p coins 9;buyer q;");
        skipTo(x, 118);
        c.good("119, 120, 121, 122", x, x.buy(0, 4), 4);
        c.good("119", x, x.owner(119), 0);
        c.good("120", x, x.owner(120), 0);
        c.bad("121", x, x.owner(121), 6);
        c.bad("122", x, x.owner(122), 6);
        c.good("paid for all four", x, x.coins(0), 5);
        c.good("has two", x, x.prints(0), 2);
        c.good("two are of somebody", x, x.told(13), 2);
        c.bad("121 can't be given", x, x.give(121, 1), 7);
        c.bad("121 can't be sold", x, x.back(0, 121), 7);
        c.good("120 can be given", x, x.give(120, 1), 0);
        c.good("119 can be sold", x, x.back(0, 119), 5);
        // A place that is free again is not for a later print.
        c.good("one more", x, x.buy(0, 1), 1);
        c.bad("123", x, x.owner(123), 6);
    }
}
