/** The sentences of ==== 3: what would be, bargains, steps from prints. */
final class AheadEdges {
    private final Check c;
    private final Doc d;

    AheadEdges(Check c, Doc d) {
        this.c = c;
        this.d = d;
    }

    void all() {
        fromNow();
        firstCostGone();
        covers();
        shares();
        turns();
        comesBack();
        tracks();
        ways();
    }

    private static void fill(LaterPrints x, long... numbers) {
        x.tray(0, 3, numbers.length);
        for (int i = 0; i < numbers.length; i++) {
            x.write(0, i, numbers[i]);
        }
    }

    private void fromNow() {
        d.says("All of this as it would go on, from the SCENE as it is now (SECOND 999 does not matter).");
        LaterPrints x = c.with("price 2 rises 1;scene 6 by 1;person a at 0 0 goes east rest west;person b at 5 0 comes 50 leaves 999 "
            + "goes rest;sight s of a at 1 0;sight t of b at 5 0;buyer p coins 9999;");
        String ahead = Check.state(x);
        x.first(0);
        x.gone(1);
        x.cover(1, 12);
        x.share(60, 0);
        x.turns(0, 3);
        x.again();
        x.sees(0);
        x.showsIn(200);
        x.whoIn(0, 0, 200);
        x.often(0, 200);
        x.longest(0, 200);
        x.stays(0, 200);
        c.due("nothing is changed by what would be", Check.state(x).equals(ahead), true);
        SecondsEdges.skipTo(x, 998);
        c.good("t now", x, x.told(10) & 2, 2);
        c.good("b leaves in 999", x, x.gone(1), 1);
        c.bad("t no more", x, x.first(1), 6);
        SecondsEdges.skipTo(x, 999);
        // Second 999 is the first of three: a is at 0 0, goes east and so on.
        c.good("1000", x, x.placeIn(0, 1), 1);
        c.good("1001", x, x.placeIn(0, 2), 1);
        c.good("1002", x, x.placeIn(0, 3), 0);
        c.good("1199", x, x.placeIn(0, 200), 1);
        c.good("who", x, x.whoIn(1, 0, 1), 0);
        c.good("first", x, x.first(0), 1);
        c.good("cost of print 1000", x, x.cost(0), 1001);
        c.good("cost of 200", x, x.costOf(200), 200 * 1001 + 199 * 100);
        c.good("often", x, x.often(0, 200), 134);
        c.good("cover", x, x.cover(1, 1), 1001);
        c.good("share", x, x.share(1, 0), 1);
        c.good("turns", x, x.turns(0, 1), 1);
        c.good("again", x, x.again(), 3);
        c.good("afford", x, x.afford(0), 9);
        c.good("sees", x, x.sees(0), 1);
        c.good("stays", x, x.stays(0, 200), 67);
        x.tray(0, 0, 3);
        c.good("copyWay", x, x.copyWay(0, 0, 3), 3);
        c.good("its second", x, x.read(0, 1), 1);
        c.bad("though nothing more can be bought", x, x.buy(0, 1), 7);
    }

    private void firstCostGone() {
        d.says("FIRST of a SIGHT: the next PRINT (of at most 200 more) that shows it.");
        String at = "price 5 rises 1;scene 1 by 1;person a at 0 0 leaves # goes rest;sight s empty;sight t of a at 0 0;";
        LaterPrints x = c.with(at.replace("#", "200"));
        c.good("the 200th", x, x.first(0), 200);
        c.good("the next one", x, x.first(1), 1);
        LaterPrints y = c.with(at.replace("#", "201"));
        c.bad("the 201st", y, y.first(0), 6);
        y.skip(1);
        c.good("the 200th from now", y, y.first(0), 200);
        LaterPrints z = c.with(at.replace("#", "1"));
        c.good("shown now does not count", z, z.told(10), 2);
        c.bad("shown now does not count", z, z.first(1), 6);
        c.good("the next one", z, z.first(0), 1);
        d.says("COST: what all PRINTS to that one cost together.");
        c.good("200", x, x.cost(0), 200 * 5 + 199 * 100);
        c.good("one", x, x.cost(1), 5);
        c.bad("none", z, z.cost(1), 6);
        z.skip(3);
        c.good("by the price of now", z, z.cost(0), 8);
        d.says("GONE: the next PRINT (as many) that does not show a PERSON, nor any behind it of these.");
        c.good("the 200th", x, x.gone(0), 200);
        LaterPrints w = c.with(at.replace("#", "201"));
        c.bad("there in the 200th", w, w.gone(0), 6);
        LaterPrints v = c.with("scene 1 by 1;person a at 0 0 comes 99 goes rest;");
        c.bad("not there for long, but in the 200th", v, v.gone(0), 6);
        LaterPrints u = c.with("scene 1 by 1;person a at 0 0 comes 99 leaves 150 goes rest;");
        c.good("not there, there, not there", u, u.gone(0), 150);
        LaterPrints t = c.with("scene 1 by 1;person a at 0 0 comes 99 leaves 99 goes rest;");
        c.good("never there", t, t.gone(0), 1);
    }

    private void covers() {
        d.says("COVER of a set of SIGHTS in n PRINTS (1 to 12): of the next n those that are the cheapest together and show all "
            + "of the set: of several the fewest, then the least as a number (1 for the next one ..).");
        LaterPrints x = c.with("price 7 rises 1;scene 2 by 1;person a at 0 0 leaves 12 goes east rest;sight s empty;sight t of a at 1 0;");
        c.bad("0 prints", x, x.cover(1, 0), 1);
        c.bad("13 prints", x, x.cover(1, 13), 1);
        c.good("the 12th", x, x.cover(1, 12), 18);
        c.good("the 12th", x, x.coverSet(1, 12), 1 << 11);
        c.bad("not by 11", x, x.cover(1, 11), 6);
        c.good("one print", x, x.cover(2, 1), 7);
        c.good("one print", x, x.coverSet(2, 1), 1);
        c.good("none for no sights", x, x.cover(0, 1), 0);
        c.good("none for no sights", x, x.coverSet(0, 12), 0);
        c.good("both", x, x.coverSet(3, 12), 1 + (1 << 11));
        c.good("both", x, x.cover(3, 12), 7 + 18);
        // s in prints 1 and 2, t in 3 and 4, u in all of these.
        LaterPrints pairs = c.with("price 4 rises 0;scene 2 by 2;person a at 0 0 goes rest rest east rest west rest;"
            + "sight s of a at 0 0;sight t of a at 1 0;person b at 0 1 leaves 5 goes rest;sight u of b at 0 1;");
        c.good("one", pairs, pairs.coverSet(4, 12), 1);
        c.good("the least of the pairs", pairs, pairs.coverSet(7, 4), 1 + 4);
        c.good("two prints", pairs, pairs.cover(7, 4), 8);
        LaterPrints free = c.with("price 0 rises 0;scene 1 by 1;sight s empty;");
        c.good("for nothing", free, free.cover(1, 12), 0);
        c.good("the fewest, of these the least", free, free.coverSet(1, 12), 1);
        cheapestThenFewest();
        LaterPrints dear = c.with("price 99 rises 20;scene 1 by 1;sight s empty;");
        SecondsEdges.skipTo(dear, 999);
        c.good("far behind", dear, dear.cover(1, 12), 99 + 999 * 20);
    }

    private void cheapestThenFewest() {
        // s in print 1 and all behind it, t in print 2 and all behind it, u in print 1 alone.
        String scene = "scene 3 by 2;person a at 0 0 goes east rest rest;person b at 2 1 comes 2 goes rest;"
            + "person e at 0 1 leaves 2 goes rest;sight s of a at 1 0;sight t of b at 2 1;sight u of e at 0 1;";
        LaterPrints x = c.with("price 5 rises 20;" + scene);
        c.good("print 2 shows s and t, it costs 25", x, x.cover(3, 12), 25);
        c.good("print 2", x, x.coverSet(3, 12), 2);
        c.good("u is in print 1 alone", x, x.coverSet(7, 12), 3);
        LaterPrints y = c.with("price 0 rises 1;" + scene);
        c.good("print 1 costs nothing, print 2 costs 1", y, y.cover(7, 12), 1);
        c.good("the fewest: without print 1", y, y.coverSet(3, 12), 2);
        // s in prints 1 and 4, t from print 2 on: two prints are cheaper than the one that shows both.
        LaterPrints z = c.with("price 0 rises 20;scene 4 by 1;person a at 0 0 goes east west west east;person b at 3 0 comes 2 "
            + "goes west rest rest rest;sight s of a at 1 0;sight t of b at 3 0;");
        c.good("prints 1 and 2 for 20, print 4 alone for 60", z, z.cover(3, 12), 20);
        c.good("prints 1 and 2", z, z.coverSet(3, 12), 3);
        fewestThenLeast();
    }

    /** s in prints 1 and 4, t in 2 and 4: the one print is a larger number than the two, and costs as much. */
    private void fewestThenLeast() {
        String scene = "scene 4 by 1;person a at 0 0 goes east west rest east;person b at 3 0 goes rest west east west;"
            + "sight s of a at 1 0;sight t of b at 2 0;";
        LaterPrints x = c.with("price 0 rises 0;" + scene);
        c.good("s in the first and fourth", x, x.often(0, 4), 2);
        c.good("t in the second and fourth", x, x.often(1, 4), 2);
        c.good("two without the fourth", x, x.coverSet(3, 3), 1 + 2);
        c.good("the fewest, though not the least", x, x.coverSet(3, 4), 8);
        c.good("the fewest, though not the least", x, x.coverSet(3, 12), 8);
        c.good("for nothing", x, x.cover(3, 12), 0);
        LaterPrints y = c.with("price 2 rises 0;" + scene);
        c.good("fewer are cheaper", y, y.coverSet(3, 12), 8);
        // Print 1 for 1 and print 2 for 2 are as dear as print 3 alone, which shows both.
        LaterPrints z = c.with("price 1 rises 1;" + scene.replace("east west rest east", "east west east")
            .replace("rest west east west", "rest west rest"));
        c.good("as dear", z, z.cover(3, 2), 3);
        c.good("as dear", z, z.cover(3, 12), 3);
        c.good("prints 1 and 2", z, z.coverSet(3, 2), 3);
        c.good("print 3", z, z.coverSet(3, 12), 4);
    }

    private void shares() {
        d.says("SHARE of two: of the next n PRINTS (1 to 60) one gets the first, third .., the other the second ..: "
            + "how many of the SIGHTS each sees.");
        String at = "scene 1 by 1;person a at 0 0 leaves # goes rest;sight s empty;sight t of a at 0 0;";
        LaterPrints x = c.with(at.replace("#", "60"));
        c.good("the 60th is the other one's", x, x.share(60, 1), 2);
        c.good("the first has none of it", x, x.share(60, 0), 1);
        c.good("59", x, x.share(59, 1), 1);
        LaterPrints y = c.with(at.replace("#", "59"));
        c.good("the 59th is the first one's", y, y.share(59, 0), 2);
        c.good("the other one has none of it", y, y.share(59, 1), 1);
        LaterPrints z = c.with(at.replace("#", "1"));
        c.good("one print, what is shown now does not count", z, z.share(1, 0), 1);
        c.good("none", z, z.share(1, 1), 0);
        c.good("two prints, what is shown now does not count", z, z.share(2, 1), 1);
        c.bad("0", x, x.share(0, 0), 1);
        c.bad("61", x, x.share(61, 1), 1);
    }

    private void turns() {
        d.says("TURNS: two by turns buy 1 to m (1 to 9) of the next PRINTS; who buys the FIRST of a SIGHT has won: "
            + "who begins wins, or not, by best play.");
        String at = "scene 1 by 1;person a at 0 0 leaves # goes rest;sight s empty;";
        for (int distance = 1; distance <= 22; distance++) {
            LaterPrints x = c.with(at.replace("#", "" + distance));
            for (int most = 1; most <= 9; most++) {
                c.good(distance + " by " + most, x, x.turns(0, most), beginnerWins(distance, most) ? 1 : 0);
            }
            c.bad("0", x, x.turns(0, 0), 1);
            c.bad("10", x, x.turns(0, 10), 1);
        }
        LaterPrints y = c.with(at.replace("#", "200"));
        c.good("200 by 9", y, y.turns(0, 9), 0);
        c.good("200 by 8", y, y.turns(0, 8), 1);
        LaterPrints z = c.with(at.replace("#", "201"));
        c.bad("no FIRST", z, z.turns(0, 9), 6);
    }

    private static boolean beginnerWins(int left, int most) {
        boolean[] wins = new boolean[left + 1];
        for (int n = 1; n <= left; n++) {
            for (int buy = 1; buy <= most; buy++) {
                wins[n] |= buy >= n || !wins[n - buy];
            }
        }
        return wins[left];
    }

    private void comesBack() {
        d.says("BACK: somebody comes back, each SECOND by odds of so many sixteenths: "
            + "the part of all cases in which it was in one of n (0 to 12) SECONDS.");
        LaterPrints x = new LaterPrints();
        for (int n = 0; n <= 12; n++) {
            for (int odds = 0; odds <= 16; odds++) {
                c.good(n + " by " + odds, x, x.comesBack(n, odds));
                java.math.BigInteger all = java.math.BigInteger.valueOf(16).pow(n);
                java.math.BigInteger came = all.subtract(java.math.BigInteger.valueOf(16 - odds).pow(n));
                java.math.BigInteger common = came.gcd(all);
                c.fraction(n + " by " + odds, x, came.divide(common).longValue(), all.divide(common).longValue());
            }
        }
        c.bad("-1", x, x.comesBack(-1, 1), 1);
        c.bad("13", x, x.comesBack(13, 1), 1);
    }

    private void tracks() {
        d.says("STEPS from prints: a PERSON alone in the SCENE with its WALLS, a TRAY tells its CELLS (10 times the row, and the "
            + "column; -1: not known) in SECONDS one behind the other, the first known: by how many rows of just p STEPS (1 to 4), "
            + "round and round, the first in the first SECOND told, it can have gone so.");
        LaterPrints x = c.with("scene 6 by 5;wall 1 0;person b at 0 1 goes rest;");
        fill(x, 0, 10);
        c.good("alone: b does not stand in the way", x, x.steps(0, 2, 1), 1);
        fill(x, 0, 0);
        c.good("the wall, west, north, rest", x, x.steps(0, 2, 1), 4);
        fill(x, 45, 45);
        c.good("the last cell: east, south, rest", x, x.steps(0, 2, 1), 3);
        fill(x, 45, 44, 45, 44, 45);
        c.good("to and fro by one step", x, x.steps(0, 5, 1), 0);
        c.good("to and fro by two", x, x.steps(0, 5, 2), 1);
        c.good("to and fro by three", x, x.steps(0, 5, 3), 0);
        c.good("by just four", x, x.steps(0, 5, 4), 1);
        fill(x, 22, -1, -1, -1, -1, 23);
        c.good("known again behind four: one step five times", x, x.steps(0, 6, 1), 0);
        c.good("four steps, the first of them twice", x, x.steps(0, 6, 4) > 0);
        fill(x, -1, 22);
        c.bad("the first not known", x, x.steps(0, 2, 1), 5);
        fill(x, 22);
        for (int p = 1, all = 5; p <= 4; p++, all *= 5) {
            c.good("one cell alone by " + p, x, x.steps(0, 1, p), all);
        }
        c.bad("0 steps", x, x.steps(0, 1, 0), 1);
        c.bad("5 steps", x, x.steps(0, 1, 5), 1);
        d.says("PERIOD: the least p (1 to 4) by which it can.");
        long[][] ways = {{0, 10, 20, 30, 40}, {20, 21, 20, 21, 20}, {20, 21, 22, 21, 22}, {20, 21, 22, 23, 22},
            {20, 21, 31, 30, 20, 21, 31, 30}};
        int[] periods = {1, 2, 3, 4, 4};
        for (int i = 0; i < ways.length; i++) {
            fill(x, ways[i]);
            c.good("row " + i, x, x.period(0, ways[i].length), periods[i]);
        }
        fill(x, 20, 21, 22, 23, 24, 23);
        c.bad("by none of 1 to 4", x, x.period(0, 6), 6);
        fill(x, 20);
        c.good("one cell alone", x, x.period(0, 1), 1);
    }

    private void ways() {
        d.says("BETWEEN: in how many ways a PERSON alone in the SCENE goes from a CELL to another one in n SECONDS (0 to 12), "
            + "in each by one of five STEPS (STEPS that lead nowhere count, too: it stays).");
        LaterPrints x = c.with("scene 2 by 1;person b at 1 0 goes rest;");
        c.good("no second", x, x.between(0, 0, 0, 0, 0), 1);
        c.good("no second", x, x.between(0, 0, 1, 0, 0), 0);
        c.good("alone: b does not stand in the way", x, x.between(0, 0, 1, 0, 1), 1);
        c.good("four stay", x, x.between(0, 0, 0, 0, 1), 4);
        c.good("two", x, x.between(0, 0, 1, 0, 2), 8);
        c.good("twelve, to and from", x, x.between(0, 0, 0, 0, 12) + x.between(0, 0, 1, 0, 12), 244140625);
        c.good("twelve", x, x.between(0, 0, 0, 0, 12), (244140625 + 531441) / 2);
        c.bad("-1", x, x.between(0, 0, 0, 0, -1), 1);
        c.bad("13", x, x.between(0, 0, 0, 0, 13), 1);
        LaterPrints y = c.with("scene 6 by 5;wall 4 4;");
        c.good("nine steps at least", y, y.between(0, 0, 5, 4, 8), 0);
        c.good("by nine, the last of them south", y, y.between(0, 0, 5, 4, 9), 126 - 70);
        d.says("ORIGIN: the set of CELLS (1 for column 0, row 0, row by row) from which one STEP leads a PERSON alone to a CELL.");
        c.good("column 0, row 0", y, y.origin(0, 0, 4), 1);
        c.good("the last one", y, y.origin(5, 4, 4), 1 << 29);
        c.good("the first of row 1", y, y.origin(0, 1, 4), 1 << 6);
        c.good("west to 0 0: who is there stays", y, y.origin(0, 0, 2), 3);
        c.good("east to 0 0: from nowhere", y, y.origin(0, 0, 0), 0);
        c.good("east to 3 4: the wall keeps him there", y, y.origin(3, 4, 0), 1 << 26 | 1 << 27);
        c.good("east to 5 4: none from the wall, but who is there", y, y.origin(5, 4, 0), 1 << 29);
        c.good("b does not matter", x, x.origin(1, 0, 0), 3);
    }
}
