/** Promises 31 to 42: what would be. */
public final class AheadTest {
    private static final Check C = new Check();
    private static final String SCENE = "price 10 rises 2;scene 4 by 2;wall 1 1;"
        + "person a at 0 0 goes east east rest west;person b at 2 0 comes 1 leaves 6 goes south rest;"
        + "person c at 3 1 comes 2 goes west;sight x of a at 1 0;sight y of a with b;sight z empty;"
        + "sight w of c at 2 1;buyer p coins 50;buyer q;";

    public static void main(String[] args) {
        prices();
        places();
        sights();
        oftenAndLongest();
        gone();
        again();
        stays();
        beyondTheLastSecond();
        nothingChanges();
        C.end();
    }

    private static void prices() {
        LaterPrints x = C.with(SCENE);
        C.good("1", x, x.priceOf(1), 10);
        C.good("999", x, x.priceOf(999), 10 + 998 * 2);
        C.bad("0", x, x.priceOf(0), 1);
        C.bad("-1", x, x.priceOf(-1), 1);
        C.bad("1000", x, x.priceOf(1000), 1);
        C.good("0", x, x.costOf(0), 0);
        C.good("1", x, x.costOf(1), 10);
        C.good("200", x, x.costOf(200), 200 * 10 + 199 * 200);
        C.bad("201", x, x.costOf(201), 1);
        C.bad("-1", x, x.costOf(-1), 1);
        x.skip(4);
        C.good("3 from print 5 on", x, x.costOf(3), 18 + 20 + 22);
        C.good("a print made", x, x.priceOf(2), 12);
    }

    private static void places() {
        LaterPrints x = C.with(SCENE);
        C.good("now", x, x.placeIn(0, 0), 0);
        C.bad("not there yet", x, x.placeIn(1, 0), 6);
        C.good("200", x, x.placeIn(2, 200), 12);
        C.bad("201", x, x.placeIn(0, 201), 1);
        C.bad("-1", x, x.placeIn(0, -1), 1);
        C.bad("no such", x, x.placeIn(3, 0), 1);
        C.bad("no such", x, x.placeIn(-1, 0), 1);
        C.good("who", x, x.whoIn(0, 0, 0), 0);
        C.bad("nobody", x, x.whoIn(0, 0, 1), 6);
        C.good("b", x, x.whoIn(2, 1, 3), 1);
        C.bad("201", x, x.whoIn(0, 0, 201), 1);
        C.bad("-1", x, x.whoIn(0, 0, -1), 1);
        C.bad("no cell", x, x.whoIn(4, 0, 0), 1);
        C.bad("no cell", x, x.whoIn(0, 2, 0), 1);
    }

    private static void sights() {
        LaterPrints x = C.with(SCENE);
        C.good("now", x, x.showsIn(0), 0);
        C.good("1", x, x.showsIn(1), 3);
        C.good("6", x, x.showsIn(6), 8);
        C.bad("201", x, x.showsIn(201), 1);
        C.bad("-1", x, x.showsIn(-1), 1);
        C.good("first", x, x.first(3), 6);
        C.good("cost", x, x.cost(3), 10 + 12 + 14 + 16 + 18 + 20);
        C.bad("none", x, x.first(2), 6);
        C.bad("none", x, x.cost(2), 6);
        C.bad("no such", x, x.first(4), 1);
        C.bad("no such", x, x.cost(-1), 1);
        x.skip(1);
        C.good("shown now, and in the next one", x, x.first(0), 1);
        x.skip(2);
        C.good("shown now, not in the next one", x, x.first(0), 2);
        C.good("cost of two", x, x.cost(0), 16 + 18);
        LaterPrints y = C.with("scene 1 by 1;person a at 0 0 leaves 200 goes rest;sight s empty;");
        C.good("the 200th", y, y.first(0), 200);
        LaterPrints z = C.with("scene 1 by 1;person a at 0 0 leaves 201 goes rest;sight s empty;");
        C.bad("the 201st", z, z.first(0), 6);
    }

    private static void oftenAndLongest() {
        LaterPrints x = C.with(SCENE);
        C.good("often", x, x.often(0, 6), 4);
        C.good("longest", x, x.longest(0, 6), 3);
        C.good("often", x, x.often(0, 1), 1);
        C.good("longest", x, x.longest(0, 1), 1);
        C.good("never", x, x.often(2, 200), 0);
        C.good("never", x, x.longest(2, 200), 0);
        C.good("from the 6th on", x, x.often(3, 200), 195);
        C.good("from the 6th on", x, x.longest(3, 200), 195);
        C.bad("0", x, x.often(0, 0), 1);
        C.bad("201", x, x.often(0, 201), 1);
        C.bad("no such", x, x.often(4, 5), 1);
        C.bad("0", x, x.longest(0, 0), 1);
        C.bad("201", x, x.longest(0, 201), 1);
        C.bad("no such", x, x.longest(-1, 5), 1);
    }

    private static void gone() {
        LaterPrints x = C.with(SCENE);
        C.good("b", x, x.gone(1), 6);
        C.bad("a stays", x, x.gone(0), 6);
        C.bad("c comes and stays", x, x.gone(2), 6);
        C.bad("no such", x, x.gone(3), 1);
        C.bad("no such", x, x.gone(-1), 1);
        x.skip(5);
        C.good("b in the next one", x, x.gone(1), 1);
        x.skip(5);
        C.good("b is gone already", x, x.gone(1), 1);
        LaterPrints y = C.with("scene 2 by 1;person a at 0 0 comes 10 leaves 20 goes rest;person b at 1 0 leaves 200 goes rest;");
        C.good("there for a while", y, y.gone(0), 20);
        C.good("there up to the 199th", y, y.gone(1), 200);
    }

    private static void again() {
        LaterPrints x = C.with("scene 3 by 1;person a at 0 0 goes east west;");
        C.good("to and fro", x, x.again(), 2);
        LaterPrints y = C.with("scene 3 by 1;person a at 0 0 goes rest;");
        C.good("at once", y, y.again(), 1);
        LaterPrints z = C.with("scene 3 by 1;person a at 0 0 goes east rest rest;");
        C.bad("never", z, z.again(), 6);
        LaterPrints w = C.with("scene 3 by 1;person a at 0 0 comes 3 leaves 5 goes rest;");
        C.good("still outside", w, w.again(), 1);
        w.skip(2);
        C.bad("gone is not outside", w, w.again(), 6);
        w.skip(3);
        C.good("gone", w, w.again(), 1);
        LaterPrints v = C.with("scene 6 by 1;person a at 0 0 goes east east west west;person b at 3 0 goes east rest west;");
        C.good("both", v, v.again(), 12);
        // Back each 8th, each 5th, and the 0th and 4th of each 7 seconds: all of them first in the 200th.
        String far = "scene 6 by 4;person a at 0 0 goes east east east east west west west west;"
            + "person b at 0 1 goes east rest rest rest west;person c at 0 2 goes east rest rest west east rest west;";
        LaterPrints u = C.with(far);
        C.good("the 200th", u, u.again(), 200);
        LaterPrints t = C.with(far + "person d at 0 3 goes east east west rest west rest rest rest;");
        C.good("the 200th, with one more", t, t.again(), 200);
        LaterPrints w3 = C.with(far + "person d at 0 3 goes east rest west;");
        C.bad("not in 200", w3, w3.again(), 6);
    }

    private static void stays() {
        LaterPrints x = C.with(SCENE);
        C.good("a", x, x.stays(0, 6), 2);
        C.good("b, not as he comes or leaves", x, x.stays(1, 200), 3);
        C.good("1", x, x.stays(0, 1), 0);
        C.bad("0", x, x.stays(0, 0), 1);
        C.bad("201", x, x.stays(0, 201), 1);
        C.bad("no such", x, x.stays(3, 1), 1);
        LaterPrints y = C.with("scene 2 by 1;person a at 0 0 goes rest;");
        C.good("always", y, y.stays(0, 200), 200);
    }

    private static void beyondTheLastSecond() {
        LaterPrints x = C.with("price 1 rises 1;scene 2 by 1;person a at 0 0 goes east west;sight s of a at 1 0;buyer p coins 9999;");
        for (int i = 0; i < 10; i++) {
            x.skip(99);
        }
        x.skip(9);
        C.good("999", x, x.told(5), 999);
        C.good("cost of print 1000", x, x.costOf(1), 1000);
        // The step of place 999 is west, so that he is where he began by print 1000.
        C.good("goes on", x, x.placeIn(0, 1), 0);
        C.good("first", x, x.first(0), 2);
        C.good("afford", x, x.afford(0), 9);
        C.good("priceOf 999", x, x.priceOf(999), 999);
    }

    private static void nothingChanges() {
        LaterPrints x = C.with(SCENE);
        x.showsIn(200);
        x.first(0);
        x.again();
        x.gone(1);
        x.stays(0, 9);
        x.cover(1, 12);
        C.good("second", x, x.told(5), 0);
        C.good("there", x, x.told(8), 1);
        C.good("column", x, x.person(0, 0), 0);
    }
}
