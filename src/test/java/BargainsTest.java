/** Promises 43 to 50: bargains. */
public final class BargainsTest {
    private static final Check C = new Check();
    private static final String SCENE = "price 10 rises 2;scene 4 by 2;wall 1 1;"
        + "person a at 0 0 goes east east rest west;person b at 2 0 comes 1 leaves 6 goes south rest;"
        + "person c at 3 1 comes 2 goes west;sight x of a at 1 0;sight y of a with b;sight z empty;"
        + "sight w of c at 2 1;buyer p coins 50;buyer q;";

    public static void main(String[] args) {
        covers();
        coverTies();
        shares();
        turns();
        comesBack();
        affords();
        C.end();
    }

    private static void covers() {
        LaterPrints x = C.with(SCENE);
        C.good("cover", x, x.cover(11, 6), 30);
        C.good("set", x, x.coverSet(11, 6), 33);
        C.good("nothing", x, x.cover(0, 12), 0);
        C.good("nothing", x, x.coverSet(0, 12), 0);
        C.bad("not by these", x, x.cover(11, 5), 6);
        C.bad("not by these", x, x.coverSet(11, 5), 6);
        C.bad("never", x, x.cover(15, 12), 6);
        C.bad("no such sight", x, x.cover(16, 6), 1);
        C.bad("no such sight", x, x.coverSet(16, 6), 1);
        C.bad("below 0", x, x.cover(-1, 6), 1);
        C.bad("0 prints", x, x.cover(1, 0), 1);
        C.bad("13 prints", x, x.cover(1, 13), 1);
        C.bad("0 prints", x, x.coverSet(1, 0), 1);
        C.bad("13 prints", x, x.coverSet(1, 13), 1);
        x.skip(4);
        C.good("one that shows both, of those from now on", x, x.coverSet(9, 12), 8);
        C.good("by the prices from now on", x, x.cover(9, 12), 24);
        C.good("two where that is not among them", x, x.coverSet(9, 3), 3);
        C.good("by the prices from now on", x, x.cover(9, 3), 18 + 20);
    }

    private static void coverTies() {
        // a passes 1 0 in print 1 and 3, 2 0 in print 2; b stands at 3 1 from print 1 to 2.
        String scene = "scene 4 by 2;person a at 0 0 goes east east west rest;person b at 3 1 leaves 3 goes rest;"
            + "sight s of a at 1 0;sight t of a at 2 0;sight u of b at 3 1;";
        LaterPrints x = C.with("price 0 rises 0;" + scene);
        C.good("all for nothing", x, x.cover(7, 12), 0);
        C.good("the fewest, then the least", x, x.coverSet(7, 12), 3);
        C.good("one", x, x.coverSet(4, 12), 1);
        C.good("one", x, x.coverSet(1, 12), 1);
        LaterPrints y = C.with("price 5 rises 0;" + scene);
        C.good("two", y, y.coverSet(7, 12), 3);
        C.good("two", y, y.cover(7, 12), 10);
    }

    private static void shares() {
        LaterPrints x = C.with(SCENE);
        C.good("the first", x, x.share(6, 0), 2);
        C.good("the other one", x, x.share(6, 1), 3);
        C.good("one print", x, x.share(1, 0), 2);
        C.good("none for the other one", x, x.share(1, 1), 0);
        C.good("60", x, x.share(60, 1), 3);
        C.bad("61", x, x.share(61, 0), 1);
        C.bad("0", x, x.share(0, 0), 1);
        C.bad("who", x, x.share(6, 2), 1);
        C.bad("who", x, x.share(6, -1), 1);
    }

    private static void turns() {
        for (int distance = 1; distance <= 40; distance++) {
            LaterPrints x = C.with("scene 1 by 1;person a at 0 0 leaves " + distance + " goes rest;sight s empty;");
            for (int most = 1; most <= 9; most++) {
                int due = winning(distance, most);
                C.good("turns " + distance + " by " + most, x, x.turns(0, most), due > 0 ? 1 : 0);
                if (due > 0) {
                    C.good("turnsFirst", x, x.turnsFirst(0, most), due);
                } else {
                    C.bad("turnsFirst", x, x.turnsFirst(0, most), 6);
                }
            }
            C.bad("0", x, x.turns(0, 0), 1);
            C.bad("10", x, x.turns(0, 10), 1);
            C.bad("0", x, x.turnsFirst(0, 0), 1);
            C.bad("10", x, x.turnsFirst(0, 10), 1);
            C.bad("no such", x, x.turns(1, 1), 1);
            C.bad("no such", x, x.turnsFirst(-1, 1), 1);
        }
        LaterPrints y = C.with(SCENE);
        C.bad("no FIRST", y, y.turns(2, 3), 6);
        C.bad("no FIRST", y, y.turnsFirst(2, 3), 6);
    }

    /** The least winning buy by trying all of them, 0 if there is none. */
    private static int winning(int distance, int most) {
        int[] best = new int[distance + 1];
        for (int d = 1; d <= distance; d++) {
            for (int take = 1; take <= most && best[d] == 0; take++) {
                if (take >= d || best[d - take] == 0) {
                    best[d] = take;
                }
            }
        }
        return best[distance];
    }

    private static void comesBack() {
        LaterPrints x = new LaterPrints();
        C.good("none", x, x.comesBack(0, 16));
        C.fraction("in no second", x, 0, 1);
        C.good("12", x, x.comesBack(12, 1));
        long all = 1L << 48;
        long never = 129746337890625L;
        C.fraction("15 to the 12th", x, all - never, all);
        C.good("12", x, x.comesBack(12, 8));
        C.fraction("a half, twelve times", x, 4095, 4096);
        C.good("sure", x, x.comesBack(12, 16));
        C.fraction("sure", x, 1, 1);
        C.good("never", x, x.comesBack(12, 0));
        C.fraction("never", x, 0, 1);
        C.good("2 by 12", x, x.comesBack(2, 12));
        C.fraction("2 by 12", x, 15, 16);
        C.bad("13", x, x.comesBack(13, 1), 1);
        C.bad("-1", x, x.comesBack(-1, 1), 1);
        C.bad("17", x, x.comesBack(1, 17), 1);
        C.bad("-1", x, x.comesBack(1, -1), 1);
        C.fraction("stays", x, 15, 16);
    }

    private static void affords() {
        LaterPrints x = C.with(SCENE);
        C.good("p", x, x.afford(0), 3);
        C.good("p sees", x, x.sees(0), 3);
        C.good("q", x, x.afford(1), 6);
        C.good("q sees", x, x.sees(1), 11);
        C.bad("no such", x, x.afford(2), 1);
        C.bad("no such", x, x.afford(-1), 1);
        C.bad("no such", x, x.sees(2), 1);
        C.bad("no such", x, x.sees(-1), 1);
        LaterPrints y = C.with("price 0 rises 0;scene 1 by 1;sight s empty;buyer p coins 0;");
        C.good("200 at most", y, y.afford(0), 200);
        C.good("sees", y, y.sees(0), 1);
        LaterPrints z = C.with("price 5 rises 0;scene 1 by 1;sight s empty;buyer p coins 4;");
        C.good("none", z, z.afford(0), 0);
        C.good("sees nothing", z, z.sees(0), 0);
        z.earn(0, 1);
        C.good("one", z, z.afford(0), 1);
        C.good("sees", z, z.sees(0), 1);
    }
}
