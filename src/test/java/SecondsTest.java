/** The rules of ==== 2: how a second goes by, as placeIn, told and skip show it. */
public final class SecondsTest {
    private static final Check C = new Check();

    public static void main(String[] args) {
        roundAndRound();
        stepsGoByTheSecond();
        wallsEdgesPeople();
        oneByOne();
        waitsOutside();
        leaves();
        neverThere();
        C.end();
    }

    /** Where somebody is from this second on, -1 where he is not there. */
    private static void way(LaterPrints x, int person, int... cells) {
        for (int k = 0; k < cells.length; k++) {
            C.due("person " + person + " in " + k, x.placeIn(person, k), cells[k]);
            C.due("status", x.status(), cells[k] < 0 ? 6 : 0);
        }
    }

    private static void roundAndRound() {
        LaterPrints x = C.with("scene 3 by 2;person a at 0 0 goes east east south west west north;");
        way(x, 0, 0, 1, 2, 12, 11, 10, 0, 1, 2, 12);
    }

    private static void stepsGoByTheSecond() {
        LaterPrints x = C.with("scene 6 by 1;person a at 0 0 comes 3 goes east rest;");
        // He comes in second 3 and stands; the step of place 3 is rest, that of place 4 is east.
        way(x, 0, -1, -1, -1, 0, 0, 1, 1, 2);
        LaterPrints y = C.with("scene 6 by 1;person a at 0 0 comes 0 goes east rest;");
        way(y, 0, 0, 1, 1, 2, 2);
        y.skip(1);
        way(y, 0, 1, 1, 2, 2, 3);
    }

    private static void wallsEdgesPeople() {
        LaterPrints x = C.with("scene 3 by 2;wall 2 0;person a at 1 0 goes east north south south west;"
            + "person b at 0 1 goes rest;");
        way(x, 0, 1, 1, 1, 11, 11, 11, 12);
    }

    private static void oneByOne() {
        LaterPrints x = C.with("scene 4 by 1;person a at 1 0 goes east;person b at 0 0 goes east;person c at 3 0 goes west;");
        // a goes first, so that b may follow at once; c finds a in his way.
        way(x, 0, 1, 2, 2);
        way(x, 1, 0, 1, 1);
        way(x, 2, 3, 3, 3);
        LaterPrints y = C.with("scene 4 by 1;person b at 0 0 goes east;person a at 1 0 goes east;");
        way(y, 0, 0, 0, 1, 2);
        way(y, 1, 1, 2, 3, 3);
        LaterPrints z = C.with("scene 2 by 1;person a at 0 0 goes east;person b at 1 0 goes west;");
        way(z, 0, 0, 0, 0);
    }

    private static void waitsOutside() {
        LaterPrints x = C.with("scene 3 by 1;person a at 0 0 goes east rest rest west rest;person b at 1 0 comes 1 goes rest;"
            + "person c at 2 0 comes 2 goes rest;");
        way(x, 0, 0, 1, 1, 1, 0, 0);
        way(x, 1, -1, -1, -1, -1, 1, 1);
        way(x, 2, -1, -1, 2);
        C.good("build a wall where c comes", x, x.build(2, 0, true));
        way(x, 2, -1, -1, -1, -1);
        x.skip(3);
        C.good("c is not gone", x, x.told(9), 0);
        x.build(2, 0, false);
        way(x, 2, -1, 2);
    }

    private static void leaves() {
        LaterPrints x = C.with("scene 3 by 1;person a at 0 0 leaves 2 goes east;person b at 2 0 leaves 1 goes rest;");
        way(x, 0, 0, 1, -1, -1);
        way(x, 1, 2, -1, -1);
        C.good("nobody gone", x, x.told(9), 0);
        x.skip(1);
        C.good("b gone", x, x.told(9), 2);
        x.skip(1);
        C.good("both gone", x, x.told(9), 3);
        C.good("nobody there", x, x.told(8), 0);
    }

    private static void neverThere() {
        LaterPrints x = C.with("scene 3 by 1;person a at 0 0 comes 2 leaves 2 goes east;"
            + "person b at 1 0 comes 3 leaves 1 goes rest;");
        way(x, 0, -1, -1, -1, -1);
        way(x, 1, -1, -1, -1, -1, -1);
        x.skip(2);
        C.good("a is gone", x, x.told(9) & 1, 1);
        x.skip(1);
        C.good("both are gone", x, x.told(9), 3);
        LaterPrints y = C.with("scene 2 by 1;person a at 0 0 goes east rest rest rest rest;person b at 1 0 comes 1 leaves 3 goes rest;");
        // a stands in b's cell until b should have left.
        way(y, 1, -1, -1, -1, -1, -1);
        y.skip(2);
        C.good("b waits", y, y.told(9), 0);
        y.skip(1);
        C.good("b has gone", y, y.told(9), 2);
        y.place(0, 0, 0);
        y.skip(1);
        C.good("b does not come", y, y.told(8), 1);
    }
}
