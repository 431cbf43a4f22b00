/** Promises 13 to 21: told, who, wall, person, stepOf, sight, coins, owner, prints. */
public final class ToldTest {
    private static final Check C = new Check();
    private static final String SCENE = "price 3 rises 2;scene 4 by 3;wall 3 2;wall 0 2;"
        + "person a at 0 0 leaves 3 goes east;person b at 2 1 comes 2 goes north rest west south;"
        + "person c at 3 0 comes 1 leaves 999 goes rest;"
        + "sight x of a at 1 0;sight y of a with b;sight z empty;buyer p coins 0;buyer q coins 70;";

    public static void main(String[] args) {
        told();
        whoAndWall();
        persons();
        steps();
        sights();
        buyers();
        shownSights();
        C.end();
    }

    private static void allTold(LaterPrints x, long... want) {
        for (int i = 0; i < want.length; i++) {
            C.good("told " + i, x, x.told(i), want[i]);
        }
    }

    private static void told() {
        LaterPrints x = C.with(SCENE);
        allTold(x, 4, 3, 3, 3, 2, 0, 3, 2, 1, 0, 0, 2, 70, 0);
        x.buy(1, 2);
        // Second 2: a at (2, 0), b has come to (2, 1), c is at (3, 0).
        allTold(x, 4, 3, 3, 3, 2, 2, 7, 2, 7, 0, 2, 2, 62, 2);
        x.skip(1);
        allTold(x, 4, 3, 3, 3, 2, 3, 9, 2, 6, 1, 0, 2, 62, 2);
        C.bad("told -1", x, x.told(-1), 1);
        C.bad("told 14", x, x.told(14), 1);
    }

    private static void whoAndWall() {
        LaterPrints x = C.with(SCENE);
        C.good("a", x, x.who(0, 0), 0);
        C.bad("nobody", x, x.who(1, 0), 6);
        C.bad("not there yet", x, x.who(3, 0), 6);
        C.bad("a wall", x, x.who(3, 2), 6);
        int[][] outside = {{-1, 0}, {4, 0}, {0, -1}, {0, 3}, {Integer.MAX_VALUE, 0}, {0, Integer.MIN_VALUE}};
        for (int[] o : outside) {
            C.bad("who outside", x, x.who(o[0], o[1]), 1);
            C.bad("wall outside", x, x.wall(o[0], o[1]), 1);
        }
        C.good("a wall", x, x.wall(3, 2), 1);
        C.good("a wall", x, x.wall(0, 2), 1);
        C.good("none", x, x.wall(2, 2), 0);
        x.skip(1);
        C.good("c", x, x.who(3, 0), 2);
        C.good("a", x, x.who(1, 0), 0);
    }

    private static void persons() {
        LaterPrints x = C.with(SCENE);
        long[] a = {0, 0, 0, 3, 1};
        for (int what = 0; what < 5; what++) {
            C.good("a " + what, x, x.person(0, what), a[what]);
        }
        C.bad("b is not there", x, x.person(1, 0), 6);
        C.bad("b is not there", x, x.person(1, 1), 6);
        C.good("b comes", x, x.person(1, 2), 2);
        C.bad("b never leaves", x, x.person(1, 3), 6);
        C.good("b's steps", x, x.person(1, 4), 4);
        C.good("c leaves", x, x.person(2, 3), 999);
        C.bad("no such", x, x.person(3, 0), 1);
        C.bad("no such", x, x.person(-1, 0), 1);
        C.bad("what", x, x.person(0, 5), 1);
        C.bad("what", x, x.person(0, -1), 1);
        x.skip(2);
        C.good("b's column", x, x.person(1, 0), 2);
        C.good("b's row", x, x.person(1, 1), 1);
        x.skip(1);
        C.bad("a is gone", x, x.person(0, 0), 6);
    }

    private static void steps() {
        LaterPrints x = C.with(SCENE);
        int[] b = {3, 4, 2, 1};
        for (int k = 0; k < 4; k++) {
            C.good("b's step " + k, x, x.stepOf(1, k), b[k]);
        }
        C.good("east", x, x.stepOf(0, 0), 0);
        C.bad("no such", x, x.stepOf(1, 4), 6);
        C.bad("no such", x, x.stepOf(0, 1), 6);
        C.bad("no such", x, x.stepOf(0, Integer.MAX_VALUE), 6);
        C.bad("no such person", x, x.stepOf(3, 0), 1);
        C.bad("no such person, no such step", x, x.stepOf(-1, 99), 1);
        C.bad("no such person, below 0", x, x.stepOf(3, -1), 1);
        C.bad("no such person, below 0", x, x.stepOf(-1, -1), 1);
        LaterPrints fresh = new LaterPrints();
        C.bad("nobody in a new object", fresh, fresh.stepOf(0, -1), 1);
        noStepBelowZero(x);
        x.skip(3);
        noStepBelowZero(x);
    }

    /** A step that is not there is 6 on either side, of whoever is there, not yet there or gone. */
    private static void noStepBelowZero(LaterPrints x) {
        int[] below = {-1, -2, -8, -9, -40, Integer.MIN_VALUE};
        for (int p = 0; p < x.told(2); p++) {
            for (int k : below) {
                C.bad("step " + k + " of " + p, x, x.stepOf(p, k), 6);
            }
        }
    }

    private static void sights() {
        LaterPrints x = C.with(SCENE + "sight v of c at 2 2;");
        C.good("at a cell", x, x.sight(0, 0), 0);
        C.good("of a", x, x.sight(0, 1), 0);
        C.good("the cell", x, x.sight(0, 2), 1);
        C.good("two", x, x.sight(1, 0), 1);
        C.good("of a", x, x.sight(1, 1), 0);
        C.good("with b", x, x.sight(1, 2), 1);
        C.good("nobody", x, x.sight(2, 0), 2);
        C.bad("of nobody", x, x.sight(2, 1), 6);
        C.bad("with nobody", x, x.sight(2, 2), 6);
        C.good("of c", x, x.sight(3, 1), 2);
        C.good("the cell", x, x.sight(3, 2), 22);
        C.bad("what", x, x.sight(0, 3), 1);
        C.bad("what", x, x.sight(0, -1), 1);
        C.bad("no such", x, x.sight(4, 0), 1);
        C.bad("no such", x, x.sight(-1, 0), 1);
    }

    private static void buyers() {
        LaterPrints x = C.with(SCENE);
        C.good("coins", x, x.coins(0), 0);
        C.good("coins", x, x.coins(1), 70);
        C.bad("no such", x, x.coins(2), 1);
        C.bad("no such", x, x.coins(-1), 1);
        C.bad("not made", x, x.owner(1), 1);
        x.buy(1, 2);
        x.skip(1);
        C.good("q's", x, x.owner(1), 1);
        C.good("q's", x, x.owner(2), 1);
        C.bad("nobody's", x, x.owner(3), 6);
        C.bad("not made", x, x.owner(4), 1);
        C.bad("print 0", x, x.owner(0), 1);
        C.bad("print -1", x, x.owner(-1), 1);
        C.good("prints", x, x.prints(1), 2);
        C.good("prints", x, x.prints(0), 0);
        C.bad("no such", x, x.prints(2), 1);
        C.bad("no such", x, x.prints(-1), 1);
    }

    private static void shownSights() {
        LaterPrints x = C.with("scene 3 by 3;person a at 1 1 goes rest;person b at 0 0 goes east rest south;"
            + "sight s of a with b;sight t of b with a;sight u of b at 1 0;");
        C.good("across is not beside", x, x.told(10), 0);
        x.skip(1);
        C.good("above", x, x.told(10), 7);
        LaterPrints y = C.with("scene 2 by 1;sight s empty;");
        C.good("nobody at all", y, y.told(10), 1);
        LaterPrints z = C.with("scene 2 by 1;person a at 1 0 comes 1 leaves 2 goes rest;sight s empty;sight t of a at 1 0;");
        C.good("not there yet", z, z.told(10), 1);
        z.skip(1);
        C.good("there", z, z.told(10), 2);
        z.skip(1);
        C.good("gone", z, z.told(10), 1);
    }
}
