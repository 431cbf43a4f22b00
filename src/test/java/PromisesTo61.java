/** The sentences of promises 43 to 61: bargains, steps from prints, RUNS, marks. */
final class PromisesTo61 {
    private static final String SCENE = "price 10 rises 2;scene 6 by 5;wall 1 1;"
        + "person a at 0 0 goes east east rest west;person b at 2 0 comes 1 leaves 6 goes south rest;"
        + "sight x of a at 1 0;sight y of a with b;sight z empty;sight w of b at 2 1;buyer p coins 50;buyer q coins 0;";

    private final Check c;
    private final Doc d;

    PromisesTo61(Check c, Doc d) {
        this.c = c;
        this.d = d;
    }

    void all() {
        covers();
        shares();
        turns();
        comesBack();
        affords();
        steps();
        periods();
        copies();
        ways();
        lives();
        means();
        marks();
    }

    private static void fill(LaterPrints x, long... numbers) {
        x.tray(0, 3, numbers.length);
        for (int i = 0; i < numbers.length; i++) {
            x.write(0, i, numbers[i]);
        }
    }

    private void covers() {
        d.promises(43, "COVER: what it costs (1; 6: not by these).");
        LaterPrints x = c.with(SCENE);
        c.good("x alone, of one print", x, x.cover(1, 1), 10);
        c.good("x and w, both in print 3", x, x.cover(9, 12), 14);
        c.good("x, y and w", x, x.cover(11, 12), 10 + 14);
        c.good("none of them", x, x.cover(0, 1), 0);
        c.bad("z never", x, x.cover(4, 12), 6);
        c.bad("all of them", x, x.cover(15, 12), 6);
        c.bad("w, not by two", x, x.cover(8, 2), 6);
        c.good("w, by three", x, x.cover(8, 3), 14);
        c.bad("no such sight", x, x.cover(16, 12), 1);
        c.bad("no such sight", x, x.cover(Integer.MAX_VALUE, 12), 1);
        c.bad("below 0", x, x.cover(-1, 12), 1);
        c.bad("far below 0", x, x.cover(Integer.MIN_VALUE, 12), 1);
        c.bad("0 prints", x, x.cover(1, 0), 1);
        c.bad("13 prints", x, x.cover(1, 13), 1);
        d.promises(44, "The set of COVER (1; 6).");
        c.good("x alone, of one print", x, x.coverSet(1, 1), 1);
        c.good("x and w, both in print 3", x, x.coverSet(9, 12), 4);
        c.good("x, y and w", x, x.coverSet(11, 12), 1 + 4);
        c.good("none of them", x, x.coverSet(0, 1), 0);
        c.bad("z never", x, x.coverSet(4, 12), 6);
        c.bad("w, not by two", x, x.coverSet(8, 2), 6);
        c.good("w, by three", x, x.coverSet(8, 3), 4);
        c.bad("no such sight", x, x.coverSet(16, 12), 1);
        c.bad("below 0", x, x.coverSet(-1, 12), 1);
        c.bad("0 prints", x, x.coverSet(1, 0), 1);
        c.bad("13 prints", x, x.coverSet(1, 13), 1);
        LaterPrints six = c.with("price 1 rises 0;scene 6 by 1;person a at 0 0 goes east east east east east rest rest rest;"
            + "sight sa of a at 0 0;sight sb of a at 1 0;sight sc of a at 2 0;sight sd of a at 3 0;"
            + "sight se of a at 4 0;sight sf of a at 5 0;");
        c.good("five sights, five prints", six, six.coverSet(62, 12), 31);
        c.good("five sights, five prints", six, six.cover(62, 5), 5);
        c.bad("the sixth is behind him", six, six.cover(63, 12), 6);
        c.bad("a seventh", six, six.cover(64, 12), 1);
        LaterPrints none = new LaterPrints();
        c.good("without sights", none, none.cover(0, 12), 0);
        c.bad("without sights", none, none.cover(1, 12), 1);
    }

    private void shares() {
        d.promises(45, "SHARE, who 0: the first, 1: the other one: how many SIGHTS (1).");
        LaterPrints x = c.with(SCENE);
        c.good("print 1 shows x and y", x, x.share(1, 0), 2);
        c.good("he has none", x, x.share(1, 1), 0);
        c.good("print 2 shows x and y, too", x, x.share(2, 1), 2);
        c.good("print 3 shows x and w", x, x.share(3, 0), 3);
        c.bad("0", x, x.share(0, 0), 1);
        c.bad("61", x, x.share(61, 0), 1);
        c.bad("who 2", x, x.share(1, 2), 1);
        c.bad("who -1", x, x.share(1, -1), 1);
    }

    private void turns() {
        d.promises(46, "TURNS: 1 if who begins wins, else 0 (1; 6: no FIRST).");
        LaterPrints x = c.with(SCENE);
        c.good("w is in print 3, by 1", x, x.turns(3, 1), 1);
        c.good("by 2", x, x.turns(3, 2), 0);
        c.good("by 3", x, x.turns(3, 3), 1);
        c.good("by 9", x, x.turns(3, 9), 1);
        c.bad("by 0", x, x.turns(3, 0), 1);
        c.bad("by 10", x, x.turns(3, 10), 1);
        c.bad("no FIRST", x, x.turns(2, 9), 6);
        c.bad("no such", x, x.turns(4, 1), 1);
        c.bad("no such", x, x.turns(-1, 1), 1);
        d.promises(47, "How many prints who begins must buy first so that he wins, the least (1; 6: no FIRST, he can't).");
        c.good("w is in print 3, by 1", x, x.turnsFirst(3, 1), 1);
        c.bad("by 2 he can't", x, x.turnsFirst(3, 2), 6);
        c.good("by 3", x, x.turnsFirst(3, 3), 3);
        c.good("by 9, not more than he must", x, x.turnsFirst(3, 9), 3);
        c.bad("by 0", x, x.turnsFirst(3, 0), 1);
        c.bad("by 10", x, x.turnsFirst(3, 10), 1);
        c.bad("no FIRST", x, x.turnsFirst(2, 9), 6);
        c.bad("no such", x, x.turnsFirst(4, 1), 1);
        c.bad("no such", x, x.turnsFirst(-1, 1), 1);
        LaterPrints y = c.with("scene 1 by 1;person a at 0 0 leaves 200 goes rest;sight s empty;");
        c.good("200 by 8", y, y.turnsFirst(0, 8), 2);
        c.bad("200 by 9", y, y.turnsFirst(0, 9), 6);
        c.good("200 by 2", y, y.turnsFirst(0, 2), 2);
    }

    private void comesBack() {
        d.promises(48, "The FRACTION is BACK by so many SECONDS and sixteenths (0 to 16) (1).");
        LaterPrints x = new LaterPrints();
        c.good("2 seconds by a half", x, x.comesBack(2, 8));
        c.fraction("three of four", x, 3, 4);
        c.bad("17", x, x.comesBack(1, 17), 1);
        c.bad("-1", x, x.comesBack(1, -1), 1);
        c.bad("13 seconds", x, x.comesBack(13, 1), 1);
        c.bad("-1 seconds", x, x.comesBack(-1, 1), 1);
        c.fraction("as it was", x, 3, 4);
        c.good("surely", x, x.comesBack(1, 16));
        c.fraction("surely", x, 1, 1);
        c.good("surely not in none", x, x.comesBack(0, 16));
        c.fraction("surely not in none", x, 0, 1);
        c.good("never", x, x.comesBack(12, 0));
        c.fraction("never", x, 0, 1);
    }

    private void affords() {
        d.promises(49, "The most prints a BUYER could buy one behind the other with his COINS (0 to 200) (1).");
        LaterPrints x = c.with(SCENE);
        c.good("10, 12 and 14 of 50", x, x.afford(0), 3);
        c.good("none for 0", x, x.afford(1), 0);
        c.bad("no such", x, x.afford(2), 1);
        c.bad("no such", x, x.afford(-1), 1);
        for (int coins = 199; coins <= 201; coins++) {
            LaterPrints y = c.with("price 1 rises 0;buyer p coins " + coins + ";");
            c.good(coins + " coins", y, y.afford(0), Math.min(coins, 200));
        }
        LaterPrints z = c.with("price 7 rises 0;buyer p coins 14;buyer q coins 13;");
        c.good("just two", z, z.afford(0), 2);
        c.good("not quite two", z, z.afford(1), 1);
        LaterPrints w = c.with("price 0 rises 1;buyer p coins 0;");
        c.good("the first for nothing", w, w.afford(0), 1);
        d.promises(50, "The SIGHTS that a BUYER could see on these: a set (1).");
        c.good("prints 1 to 3 show x, y, w", x, x.sees(0), 11);
        c.good("nothing for 0", x, x.sees(1), 0);
        c.bad("no such", x, x.sees(2), 1);
        c.bad("no such", x, x.sees(-1), 1);
        String at = "price 1 rises 0;scene 1 by 1;person a at 0 0 leaves # goes rest;sight s empty;sight t of a at 0 0;buyer p coins 999;";
        LaterPrints far = c.with(at.replace("#", "200"));
        c.good("the 200th, too", far, far.sees(0), 3);
        LaterPrints farther = c.with(at.replace("#", "201"));
        c.good("not the 201st", farther, farther.sees(0), 2);
        LaterPrints now = c.with(at.replace("#", "1"));
        c.good("what is shown now does not count", now, now.sees(0), 1);
        LaterPrints one = c.with(at.replace("#", "2").replace("999", "1"));
        c.good("the one print he can buy", one, one.sees(0), 2);
    }

    private void steps() {
        d.promises(51, "STEPS by the first n (1 to 20) numbers of a TRAY for p (1; 2; 3; 5: the first not known, no CELL, a WALL).");
        LaterPrints x = c.with(SCENE);
        c.bad("missing", x, x.steps(0, 1, 1), 2);
        long[] twenty = new long[21];
        for (int i = 0; i < 20; i++) {
            twenty[i] = i % 2 == 0 ? 44 : 45;
        }
        twenty[20] = 99;
        fill(x, twenty);
        c.good("20", x, x.steps(0, 20, 2), 1);
        c.good("20", x, x.steps(0, 20, 4), 1);
        c.good("20, by three it can't be", x, x.steps(0, 20, 3), 0);
        c.bad("21", x, x.steps(0, 21, 2), 1);
        c.bad("0", x, x.steps(0, 0, 2), 1);
        c.bad("p 0", x, x.steps(0, 1, 0), 1);
        c.bad("p 5", x, x.steps(0, 1, 5), 1);
        c.bad("no tray", x, x.steps(4, 1, 1), 1);
        c.bad("no tray", x, x.steps(-1, 1, 1), 1);
        fill(x, 0);
        c.bad("too few", x, x.steps(0, 2, 1), 3);
        c.good("just enough", x, x.steps(0, 1, 1), 5);
        long[] no = {-1, -2, 6, 9, 11, 46, 50, 100, 256, 1L << 32, -(1L << 32), Long.MAX_VALUE, Long.MIN_VALUE};
        for (long first : no) {
            fill(x, first, 0);
            c.bad("the first " + first, x, x.steps(0, 2, 1), 5);
            c.bad("the first " + first, x, x.steps(0, 1, 1), 5);
        }
        for (long second : no) {
            fill(x, 0, second);
            if (second == -1) {
                c.good("a later one not known", x, x.steps(0, 2, 1), 5);
            } else {
                c.bad("a later one " + second, x, x.steps(0, 2, 1), 5);
            }
            c.good("not asked for", x, x.steps(0, 1, 1), 5);
        }
        d.promises(52, "The k-th STEP (0 to p less 1) of the first of those rows, by STEPS (east the first) (1; 2; 3; 5; 6: none).");
        fill(x, 45, 45, 35, 34);
        int[] row = {0, 3, 2, 0};
        for (int k = 0; k < 4; k++) {
            c.good("k " + k, x, x.stepsAt(0, 4, 4, k), row[k]);
        }
        c.good("p 3", x, x.stepsAt(0, 4, 3, 2), 2);
        c.bad("p 2: none", x, x.stepsAt(0, 4, 2, 0), 6);
        c.bad("k is p", x, x.stepsAt(0, 4, 3, 3), 1);
        c.bad("k -1", x, x.stepsAt(0, 4, 3, -1), 1);
        c.bad("p 0", x, x.stepsAt(0, 4, 0, 0), 1);
        c.bad("p 0, k -1", x, x.stepsAt(0, 4, 0, -1), 1);
        c.bad("p 5", x, x.stepsAt(0, 4, 5, 4), 1);
        c.bad("n 0", x, x.stepsAt(0, 0, 1, 0), 1);
        c.bad("n 21", x, x.stepsAt(0, 21, 1, 0), 1);
        c.bad("no tray", x, x.stepsAt(4, 1, 1, 0), 1);
        c.bad("missing", x, x.stepsAt(1, 1, 1, 0), 2);
        c.bad("too few", x, x.stepsAt(0, 5, 1, 0), 3);
        fill(x, 0, 11);
        c.bad("a wall", x, x.stepsAt(0, 2, 1, 0), 5);
    }

    private void periods() {
        d.promises(53, "PERIOD (1; 2; 3; 5; 6: by none of 1 to 4).");
        LaterPrints x = c.with(SCENE);
        c.bad("missing", x, x.period(0, 1), 2);
        fill(x, 40, 41, 42, 43, 44);
        c.good("1", x, x.period(0, 5), 1);
        fill(x, 40, 41, 31, 30, 40, 41, 31, 30, 40);
        c.good("4", x, x.period(0, 9), 4);
        fill(x, 40, 41, 42, 43, 44, 43);
        c.bad("by none", x, x.period(0, 6), 6);
        c.bad("0", x, x.period(0, 0), 1);
        c.bad("21", x, x.period(0, 21), 1);
        c.bad("no tray", x, x.period(4, 1), 1);
        c.bad("no tray", x, x.period(-1, 1), 1);
        c.bad("too few", x, x.period(0, 7), 3);
        fill(x, 40, 11);
        c.bad("a wall", x, x.period(0, 2), 5);
        fill(x, -1, 40);
        c.bad("the first not known", x, x.period(0, 2), 5);
        fill(x, new long[20]);
        c.good("20", x, x.period(0, 20), 1);
    }

    private void copies() {
        d.promises(54, "Where a PERSON is in this and the next n less 1 SECONDS (n 1 to 20) comes to a TRAY (-1: not there): "
            + "n (1; 2; 3).");
        LaterPrints x = c.with(SCENE);
        c.bad("missing", x, x.copyWay(1, 0, 1), 2);
        for (int sort = 0; sort < 4; sort++) {
            x.tray(0, sort, 21);
            for (int place = 0; place < 21; place++) {
                x.write(0, place, 99);
            }
            c.good("1: this second alone", x, x.copyWay(1, 0, 1), 1);
            c.good("not there", x, x.read(0, 0), -1);
            c.good("the next place stays", x, x.read(0, 1), 99);
            c.good("20", x, x.copyWay(1, 0, 20), 20);
            int[] way = {-1, 2, 2, 12, 12, 22, -1, -1};
            for (int place = 0; place < 20; place++) {
                c.good("place " + place, x, x.read(0, place), way[Math.min(place, 7)]);
            }
            c.good("the next place stays", x, x.read(0, 20), 99);
        }
        c.bad("0", x, x.copyWay(1, 0, 0), 1);
        c.bad("21", x, x.copyWay(1, 0, 21), 1);
        c.bad("nobody", x, x.copyWay(2, 0, 1), 1);
        c.bad("nobody", x, x.copyWay(-1, 0, 1), 1);
        c.bad("no tray", x, x.copyWay(1, 4, 1), 1);
        c.bad("no tray", x, x.copyWay(1, -1, 1), 1);
        x.tray(0, 0, 19);
        c.bad("too few", x, x.copyWay(1, 0, 20), 3);
        c.good("just enough", x, x.copyWay(1, 0, 19), 19);
        x.tray(0, 0, 0);
        c.bad("none", x, x.copyWay(1, 0, 1), 3);
    }

    private void ways() {
        d.promises(55, "BETWEEN (1; 7: one of both is a WALL).");
        LaterPrints x = c.with(SCENE);
        c.bad("the first is a wall", x, x.between(1, 1, 0, 0, 1), 7);
        c.bad("the other one is a wall", x, x.between(0, 0, 1, 1, 1), 7);
        c.bad("both are", x, x.between(1, 1, 1, 1, 0), 7);
        c.good("neither is", x, x.between(0, 1, 1, 0, 2), 1);
        c.good("to itself", x, x.between(0, 0, 0, 0, 1), 3);
        int[][] no = {{-1, 0}, {6, 0}, {0, -1}, {0, 5}};
        for (int[] cell : no) {
            c.bad("from no cell", x, x.between(cell[0], cell[1], 0, 0, 1), 1);
            c.bad("to no cell", x, x.between(0, 0, cell[0], cell[1], 1), 1);
        }
        c.bad("13", x, x.between(0, 0, 0, 0, 13), 1);
        c.bad("-1", x, x.between(0, 0, 0, 0, -1), 1);
        c.good("corner to corner", x, x.between(5, 4, 5, 4, 1), 3);
        d.promises(56, "ORIGIN by a STEP (1; 7: a WALL).");
        c.bad("a wall", x, x.origin(1, 1, 4), 7);
        for (int[] cell : no) {
            c.bad("no cell", x, x.origin(cell[0], cell[1], 0), 1);
        }
        c.bad("step 5", x, x.origin(0, 0, 5), 1);
        c.bad("step -1", x, x.origin(0, 0, -1), 1);
        int[] all = {1 << 28 | 1 << 29, 1 << 23 | 1 << 29, 0, 0, 1 << 29};
        for (int step = 0; step <= 4; step++) {
            c.good("to the last cell by " + step, x, x.origin(5, 4, step), all[step]);
        }
    }

    private void lives() {
        d.promises(57, "LIVED: how many ACTS were done (1; 6: no RUNS).");
        LaterPrints x = c.with(SCENE);
        c.bad("no RUNS", x, x.live(0), 6);
        c.bad("-1", x, x.live(-1), 1);
        c.bad("10,000", x, x.live(10000), 1);
        Check.runs(x, "buy p 1;give p q;any;when there b;end;stop;any;");
        c.good("five, stop the last", x, x.live(0), 5);
        Check.scene(x, SCENE);
        c.bad("no RUNS any more", x, x.live(0), 6);
        d.promises(58, "Of live() latest with STATUS 0, what 0: MISSED, 1: prints that were made, 2: that were bought, "
            + "3: COINS that were paid for them, 4: 1 if an ACT was left to be done, else 0 (1; 6: there was none).");
        LaterPrints y = c.with(SCENE, "buy q 1;buy p 2;skip 3;");
        c.bad("there was none", y, y.lived(0), 6);
        c.bad("-1", y, y.lived(-1), 1);
        c.bad("5", y, y.lived(5), 1);
        y.mean(0, 20);
        c.bad("a mean is none", y, y.lived(0), 6);
        y.live(-1);
        c.bad("a refused one is none", y, y.lived(0), 6);
        y.live(0);
        int[] lived = {1, 5, 2, 22, 0};
        for (int what = 0; what < 5; what++) {
            c.good("what " + what, y, y.lived(what), lived[what]);
        }
        y.live(10000);
        y.mean(0, 20);
        for (int what = 0; what < 5; what++) {
            c.good("still, what " + what, y, y.lived(what), lived[what]);
        }
        Check.runs(y, "loop 99;loop 9;skip 1;end;end;any;");
        y.live(0);
        c.good("cut off", y, y.lived(4), 1);
        c.good("of the latest one alone", y, y.lived(0), 0);
        Check.runs(y, "stop;");
        y.live(0);
        for (int what = 0; what < 5; what++) {
            c.good("of the latest one alone, what " + what, y, y.lived(what), 0);
        }
        c.bad("-1", y, y.lived(-1), 1);
        c.bad("5", y, y.lived(5), 1);
    }

    private void means() {
        d.promises(59, "The FRACTION is the mean of all COINS behind the RUNS, by so many seeds (1 to 20) from one on "
            + "(1: the last above 9,999, too; 6: no RUNS); all stays as it is.");
        LaterPrints x = c.with("price 3 rises 1;buyer a coins 3;buyer b coins 0;");
        c.bad("no RUNS", x, x.mean(0, 1), 6);
        c.bad("1 ahead of 6", x, x.mean(0, 0), 1);
        Check.runs(x, "any;any;skip 1;");
        String all = Check.state(x);
        for (int many = 1; many <= 20; many++) {
            long sum = 0;
            for (int seed = 9000; seed < 9000 + many; seed++) {
                int first = (seed * 3049 + 11273) % 65536;
                // a pays 3 for the first print, if a is drawn first, or by the second draw, as b has none.
                int second = (int) ((first * 3049L + 11273) % 65536);
                sum += first / 8 % 2 == 0 || second / 8 % 2 == 0 ? 0 : 3;
            }
            c.good("by " + many, x, x.mean(9000, many));
            c.due("by " + many, x.top() * many, sum * x.bottom());
        }
        x.comesBack(0, 0);
        c.due("all stays as it is", Check.state(x).equals(all), true);
        c.bad("0 seeds", x, x.mean(0, 0), 1);
        c.bad("21 seeds", x, x.mean(0, 21), 1);
        c.bad("-1 seeds", x, x.mean(0, -1), 1);
        c.bad("seed -1", x, x.mean(-1, 2), 1);
        c.bad("seed 10,000", x, x.mean(10000, 1), 1);
        c.bad("the last 10,000", x, x.mean(9999, 2), 1);
        c.bad("the last 10,000", x, x.mean(9981, 20), 1);
        c.bad("far above", x, x.mean(Integer.MAX_VALUE, 20), 1);
        c.bad("far below", x, x.mean(Integer.MIN_VALUE, 20), 1);
        c.bad("far too many", x, x.mean(0, Integer.MIN_VALUE), 1);
        c.good("the last 9,999", x, x.mean(9999, 1));
        c.good("the last 9,999", x, x.mean(9980, 20));
        c.good("the first", x, x.mean(0, 1));
        LaterPrints y = c.with("buyer a coins 9999;buyer b coins 9999;buyer c coins 9999;buyer d coins 9999;", "stop;");
        c.good("the most", y, y.mean(0, 20));
        c.fraction("the most", y, 39996, 1);
    }

    private void marks() {
        d.promises(60, "A MARK more: how many there are (4).");
        LaterPrints x = c.with(SCENE);
        for (int many = 1; many <= 3; many++) {
            c.good("mark", x, x.mark(), many);
            x.skip(1);
        }
        c.bad("a fourth", x, x.mark(), 4);
        c.good("nothing is taken back by it", x, x.told(5), 3);
        d.promises(61, "All is taken back to the latest MARK: how many there are left (6).");
        for (int left = 2; left >= 0; left--) {
            c.good("undo", x, x.undo(), left);
            c.good("second", x, x.told(5), left);
        }
        c.bad("none is left", x, x.undo(), 6);
        c.good("second", x, x.told(5), 0);
        c.good("again one", x, x.mark(), 1);
        c.good("and a second one", x, x.mark(), 2);
        c.good("undo", x, x.undo(), 1);
        LaterPrints y = new LaterPrints();
        y.mark();
        Check.scene(y, SCENE);
        y.undo();
        c.good("back to a new object's scene", y, y.told(0), 0);
        c.good("nobody", y, y.told(2), 0);
        c.good("price", y, y.told(6), 5);
        LaterPrints z = c.with("price 0 rises 0;buyer p;buyer q;");
        SecondsEdges.skipTo(z, 118);
        z.buy(0, 3);
        z.mark();
        z.give(119, 1);
        z.give(120, 1);
        z.undo();
        c.good("the last print that is kept, too", z, z.owner(120), 0);
        c.good("and that ahead of it", z, z.owner(119), 0);
    }
}
