/** Promises 57 to 59: live, lived, mean. */
public final class RunsTest {
    private static final Check C = new Check();
    private static final String SCENE = "price 2 rises 1;scene 3 by 1;person p at 0 0 goes east rest west rest;"
        + "person r at 2 0 comes 50 goes rest;sight s of p at 1 0;buyer a coins 60;buyer b coins 30;buyer c coins 20;";

    public static void main(String[] args) {
        refused();
        acts();
        missed();
        tests();
        loops();
        stops();
        mostActs();
        draws();
        means();
        livedStays();
        C.end();
    }

    private static LaterPrints with(String scene, String runs) {
        LaterPrints x = C.with(scene);
        Check.runs(x, runs);
        C.due("runs without fault: " + runs, x.status(), 0);
        return x;
    }

    private static void lived(LaterPrints x, int... want) {
        for (int i = 0; i < want.length; i++) {
            C.good("lived " + i, x, x.lived(i), want[i]);
        }
    }

    private static void refused() {
        LaterPrints x = C.with(SCENE);
        C.bad("no runs", x, x.live(0), 6);
        C.bad("1 ahead of 6", x, x.live(-1), 1);
        C.bad("1 ahead of 6", x, x.mean(10000, 1), 1);
        C.bad("no runs", x, x.mean(0, 1), 6);
        C.bad("never lived", x, x.lived(0), 6);
        C.bad("1 ahead of 6", x, x.lived(5), 1);
        Check.runs(x, "skip 1;");
        C.bad("seed", x, x.live(10000), 1);
        C.bad("seed", x, x.live(-1), 1);
        C.bad("never lived", x, x.lived(4), 6);
        C.good("seed", x, x.live(9999), 1);
        C.good("seed", x, x.live(0), 1);
        C.bad("what", x, x.lived(-1), 1);
        C.bad("what", x, x.lived(5), 1);
        C.good("second", x, x.told(5), 2);
    }

    private static void acts() {
        LaterPrints x = with(SCENE, "buy a 3;skip 2;give a b;buy b 1;");
        C.good("acts", x, x.live(7), 4);
        lived(x, 0, 6, 4, 2 + 3 + 4 + 7, 0);
        C.good("second", x, x.told(5), 6);
        C.good("a", x, x.coins(0), 51);
        C.good("b", x, x.coins(1), 23);
        C.good("the latest was given", x, x.owner(3), 1);
        C.good("not that ahead", x, x.owner(2), 0);
        C.bad("thrown away", x, x.owner(4), 6);
        C.good("bought", x, x.owner(6), 1);
        C.good("it goes on from there", x, x.live(7), 4);
        C.good("second", x, x.told(5), 12);
        lived(x, 0, 6, 4, 8 + 9 + 10 + 13, 0);
    }

    private static void missed() {
        LaterPrints x = with(SCENE, "give a b;give a a;buy c 8;buy c 5;give c c;give c a;give c a;");
        C.good("acts", x, x.live(0), 7);
        // 8 prints cost 44, 5 cost 20: none is bought of those that can't be paid for.
        lived(x, 4, 5, 5, 20, 0);
        C.good("coins", x, x.coins(2), 0);
        C.good("given", x, x.owner(5), 0);
        C.good("given", x, x.owner(4), 0);
        LaterPrints y = with("scene 1 by 1;", "any;skip 1;any;");
        C.good("acts", y, y.live(0), 3);
        lived(y, 2, 1, 0, 0, 0);
        LaterPrints z = with("price 0 rises 0;scene 1 by 1;buyer a coins 5;", "skip 6;skip 5;buy a 5;buy a 4;skip 1;any;buy a 1;");
        for (int i = 0; i < 10; i++) {
            z.skip(99);
        }
        C.good("acts", z, z.live(0), 7);
        // From 990 to 996; 5, 5 and 4 are too many and missed as a whole; then one each to 999.
        lived(z, 3, 9, 2, 0, 0);
        C.good("second", z, z.told(5), 999);
        C.good("acts", z, z.live(0), 7);
        lived(z, 7, 0, 0, 0, 0);
    }

    private static void tests() {
        check("when shows s;buy a 1;end;skip 1;when shows s;buy b 1;end;", 4, 1);
        check("skip 1;when there p;buy b 1;end;when there r;buy a 1;end;", 4, 1);
        check("when coins a < 60;buy a 1;end;when coins a < 61;buy b 1;end;", 3, 1);
        check("when coins a > 60;buy a 1;end;when coins a > 59;buy b 1;end;", 3, 1);
        check("when coins a = 61;buy a 1;end;when coins a = 60;buy b 1;end;", 3, 1);
        check("when shows s;when there p;buy a 1;end;buy a 1;end;buy b 1;", 2, 1);
        check("when there p;when shows s;buy a 1;end;buy b 1;end;", 3, 1);
        check("when shows s;end;buy b 1;", 2, 1);
    }

    /** Runs in which a must buy nothing, b so many. */
    private static void check(String runs, int acts, int byB) {
        LaterPrints x = with(SCENE, runs);
        C.good(runs, x, x.live(0), acts);
        C.good(runs + " a", x, x.prints(0), 0);
        C.good(runs + " b", x, x.prints(1), byB);
    }

    private static void loops() {
        LaterPrints x = with(SCENE, "loop 3;skip 1;loop 2;skip 2;end;end;skip 1;");
        // The outer loop is one, then three times: skip, the inner loop, two skips; the last skip.
        C.good("acts", x, x.live(0), 1 + 3 * 4 + 1);
        C.good("second", x, x.told(5), 3 * 5 + 1);
        LaterPrints y = with(SCENE, "loop 1;skip 1;end;");
        C.good("once", y, y.live(0), 2);
        LaterPrints z = with(SCENE, "loop 99;end;skip 1;");
        C.good("empty", z, z.live(0), 2);
        LaterPrints w = with(SCENE, "loop 99;loop 99;loop 99;end;end;end;skip 1;");
        C.good("empty ones to the limit", w, w.live(0), 300);
        lived(w, 0, 0, 0, 0, 1);
        LaterPrints v = with(SCENE, "loop 4;when coins a > 58;skip 1;buy a 1;end;end;");
        // 3 coins for print 2, then 57 are left.
        C.good("acts", v, v.live(0), 1 + 4 + 2);
        C.good("second", v, v.told(5), 2);
    }

    private static void stops() {
        LaterPrints x = with(SCENE, "skip 1;loop 5;skip 2;when there p;stop;end;end;skip 3;");
        C.good("acts", x, x.live(0), 5);
        lived(x, 0, 3, 0, 0, 0);
        LaterPrints y = with(SCENE, "stop;skip 1;");
        C.good("acts", y, y.live(0), 1);
        C.good("second", y, y.told(5), 0);
    }

    private static void mostActs() {
        String scene = "price 0 rises 0;buyer a;";
        LaterPrints x = with(scene, "loop 99;skip 1;skip 1;skip 1;end;skip 1;skip 1;");
        // The loop and 297 skips make 298, the two behind it 300.
        C.good("just 300", x, x.live(0), 300);
        lived(x, 0, 299, 0, 0, 0);
        LaterPrints y = with(scene, "loop 99;skip 1;skip 1;skip 1;end;skip 1;skip 1;any;");
        C.good("one left", y, y.live(0), 300);
        lived(y, 0, 299, 0, 0, 1);
        LaterPrints z = with(scene, "skip 1;skip 1;loop 99;skip 1;skip 1;skip 1;end;");
        C.good("an end is none", z, z.live(0), 300);
        lived(z, 0, 299, 0, 0, 0);
        LaterPrints w = with(scene, "skip 1;loop 99;skip 1;skip 1;skip 1;end;stop;skip 1;");
        C.good("stop is the last", w, w.live(0), 300);
        lived(w, 0, 298, 0, 0, 0);
        LaterPrints v = with(scene, "loop 99;skip 1;skip 1;skip 1;when coins a = 5;end;end;");
        C.good("a when is left", v, v.live(0), 300);
        lived(v, 0, 225, 0, 0, 1);
        LaterPrints u = with("price 0 rises 0;", "loop 99;any;any;any;any;end;");
        C.good("missed ones count", u, u.live(0), 300);
        lived(u, 299, 0, 0, 0, 1);
    }

    private static void draws() {
        LaterPrints x = with("price 0 rises 0;buyer a;buyer b;buyer c;", "loop 20;any;end;");
        for (int seed = 0; seed < 10000; seed += 1111) {
            int from = x.told(5);
            C.good("live", x, x.live(seed), 21);
            long s = seed;
            for (int i = 1; i <= 20 && from + i <= 120; i++) {
                s = (s * 3049 + 11273) % 65536;
                C.good("draw " + i + " of " + seed, x, x.owner(from + i), s / 8 % 3);
            }
        }
        // A draw is made for a buyer without coins, too, and so the next one is another.
        LaterPrints y = with("price 1 rises 0;buyer a coins 0;buyer b coins 9;", "any;any;any;any;any;any;");
        C.good("live", y, y.live(5), 6);
        long s = 5;
        int byB = 0;
        for (int i = 0; i < 6; i++) {
            s = (s * 3049 + 11273) % 65536;
            byB += s / 8 % 2;
        }
        lived(y, 6 - byB, byB, byB, byB, 0);
    }

    private static void means() {
        LaterPrints x = with(SCENE, "any;skip 1;buy b 1;");
        C.good("mean of one", x, x.mean(0, 1));
        C.fraction("mean of one", x, 110 - 2 - 4, 1);
        LaterPrints y = with("price 3 rises 2;buyer a coins 0;buyer b coins 50;", "any;");
        long sum = 0;
        for (int seed = 100; seed < 120; seed++) {
            sum += (seed * 3049 + 11273) % 65536 / 8 % 2 == 1 ? 47 : 50;
        }
        C.good("mean of 20", y, y.mean(100, 20));
        C.due("mean of 20", y.top() * 20, sum * y.bottom());
        C.due("without a common divisor", gcd(y.top(), y.bottom()), 1);
        C.good("all stays", y, y.told(5), 0);
        C.good("all stays", y, y.told(12), 50);
        C.bad("nothing lived", y, y.lived(0), 6);
        C.bad("many", y, y.mean(0, 0), 1);
        C.bad("many", y, y.mean(0, 21), 1);
        C.bad("seed", y, y.mean(-1, 1), 1);
        C.bad("seed", y, y.mean(10000, 1), 1);
        C.bad("the last", y, y.mean(9981, 20), 1);
        C.good("the last", y, y.mean(9980, 20));
        C.good("the last", y, y.mean(9999, 1));
        LaterPrints z = with("scene 1 by 1;", "any;");
        C.good("nobody's coins", z, z.mean(0, 7));
        C.fraction("nothing", z, 0, 1);
    }

    private static long gcd(long a, long b) {
        return b == 0 ? a : gcd(b, a % b);
    }

    private static void livedStays() {
        LaterPrints x = with(SCENE, "buy a 2;");
        x.live(0);
        x.mean(0, 20);
        x.live(-1);
        lived(x, 0, 2, 2, 5, 0);
        Check.scene(x, "");
        lived(x, 0, 2, 2, 5, 0);
        C.bad("no runs", x, x.live(0), 6);
        lived(x, 0, 2, 2, 5, 0);
    }
}
