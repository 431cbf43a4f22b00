/** The sentences of ==== 4: RUNS and their faults, how they are lived, marks, fractions. */
final class RunsEdges {
    private static final String SCENE =
        "price 1 rises 0;scene 4 by 1;person p at 0 0 goes east;person q at 2 0 comes 9 goes rest;sight s of p at 1 0;"
        + "buyer a coins 50;buyer b coins 50;";

    private final Check c;
    private final Doc d;

    RunsEdges(Check c, Doc d) {
        this.c = c;
        this.d = d;
    }

    void all() {
        texts();
        acts();
        faults();
        tooManyTooDeep();
        whatActsDo();
        missed();
        tests();
        loops();
        most300();
        lives();
        draws();
        marks();
        fractions();
    }

    private void lived(String what, LaterPrints x, int... want) {
        for (int i = 0; i < want.length; i++) {
            c.good(what + ", lived " + i, x, x.lived(i), want[i]);
        }
    }

    private void texts() {
        d.says("RUNS are a TEXT of at most 300 bytes, of such TOKENS (none at first).");
        LaterPrints x = c.with(SCENE);
        c.bad("none at first", x, x.live(0), 6);
        String full = "skip 1" + " ".repeat(293) + ";";
        Check.feed(x, full + "!");
        c.bad("301", x, x.runs(301), 1);
        c.good("300, the last of them a sign", x, x.runs(300), 1);
        Check.feed(x, full);
        c.bad("299, without that sign", x, x.runs(299), 9);
        c.due("fault", x.fault(0), 2);
        c.due("its place", x.fault(1), 299);
        c.with(SCENE, "\nskip\n1;any;\n");
        c.with(SCENE, "skip1;buy a1;when coins a<5;end;");
        c.runsFault(SCENE, "skip 1;|\t", 1);
        c.runsFault(SCENE, "skip |10000;", 1);
        c.runsFault(SCENE, "|skipp 1;", 2);
    }

    private void acts() {
        d.says("RUNS: {ACT}.");
        c.good("no ACT", c.with(SCENE, ""), 0, 0);
        c.good("one", c.with(SCENE, "stop;"), 0, 0);
        d.says("ACT: buy NAME NUMBER ;");
        act("buy a 1 ;");
        d.says("or skip NUMBER ;");
        act("skip 1 ;");
        d.says("or give NAME NAME ;");
        act("give a b ;");
        d.says("or any ;");
        act("any ;");
        d.says("or when TEST ; {ACT} end ;");
        act("when there p ; end ;");
        act("when there p ; any ; any ; end ;");
        d.says("or loop NUMBER ; {ACT} end ;");
        act("loop 1 ; end ;");
        act("loop 1 ; any ; skip 1 ; end ;");
        d.says("or stop ;");
        act("stop ;");
        d.says("TEST: shows NAME, or there NAME, or coins NAME COMPARES NUMBER.");
        act("when shows s ; end ;");
        act("when there q ; end ;");
        act("when coins b > 5 ; end ;");
        c.runsFault(SCENE, "when coins a < |any;end;", 2);
        c.runsFault(SCENE, "when coins a < |;end;", 2);
        c.runsFault(SCENE, "when |any;end;", 2);
        c.runsFault(SCENE, "when |;end;", 2);
        c.runsFault(SCENE, "when|", 2);
        d.says("COMPARES: &lt; or &gt; or =");
        for (String compare : new String[] {"<", ">", "="}) {
            act("when coins a " + compare + " 5 ; end ;");
        }
        c.runsFault(SCENE, "when coins a |; 5;end;", 2);
        c.runsFault(SCENE, "when coins a <|= 5;end;", 2);
    }

    /** An act of tokens with blanks between them: it is taken, and no token of it may be left out or be another sign. */
    private void act(String act) {
        c.with(SCENE, act);
        String[] tokens = act.split(" ");
        StringBuilder text = new StringBuilder();
        for (int i = 0; i < tokens.length; i++) {
            if (i > 0) {
                c.runsFault(SCENE, text + "|", 2);
            }
            boolean isCompare = tokens[i].equals("<") || tokens[i].equals(">") || tokens[i].equals("=");
            c.runsFault(SCENE, text + (i > 0 ? " " : "") + (isCompare ? "|; 5 ;" : "|= ;"), 2);
            text.append(i > 0 ? " " : "").append(tokens[i]);
        }
        c.runsFault(SCENE, text + " |;", 2);
    }

    private void faults() {
        d.says("FAULTS: 1, 2 as above (an end without a beginning; the text's end ahead of an end: 2).");
        c.runsFault(SCENE, "|!", 1);
        c.runsFault(SCENE, "any;|Any;", 1);
        c.runsFault(SCENE, "loop |00001;end;", 1);
        c.runsFault(SCENE, "|12345", 1);
        c.runsFault(SCENE, "buy |abcdefghi 1;", 2);
        c.runsFault(SCENE, "buy |end 1;", 2);
        c.runsFault(SCENE, "|end;", 2);
        c.runsFault(SCENE, "any;|end;", 2);
        c.runsFault(SCENE, "loop 1;end;|end;", 2);
        c.runsFault(SCENE, "loop 1;|", 2);
        c.runsFault(SCENE, "loop 1; \n |", 2);
        c.runsFault(SCENE, "loop 1;when there p;end;|", 2);
        c.runsFault(SCENE, "loop 1;any;end|", 2);
        c.runsFault(SCENE, "|scene 3 by 1;", 2);
        // A text that ends ahead of an end leaves nothing open for the next one.
        LaterPrints x = c.runsFault(SCENE, "loop 1;loop 1;loop 1;|", 2);
        c.good("the next one", x, Check.runs(x, "loop 1;loop 1;loop 1;any;end;end;end;"), 4);
        c.bad("an end too many", x, Check.runs(x, "any;end;"), 9);
        d.says("3 a NAME that is no such one (BUYERS; a SIGHT behind shows, a PERSON behind there).");
        c.runsFault(SCENE, "buy |c 1;", 3);
        c.runsFault(SCENE, "buy |p 1;", 3);
        c.runsFault(SCENE, "buy |s 1;", 3);
        c.runsFault(SCENE, "give |p a;", 3);
        c.runsFault(SCENE, "give a |s;", 3);
        c.runsFault(SCENE, "give a |c;", 3);
        c.runsFault(SCENE, "when shows |p;end;", 3);
        c.runsFault(SCENE, "when shows |a;end;", 3);
        c.runsFault(SCENE, "when there |s;end;", 3);
        c.runsFault(SCENE, "when there |a;end;", 3);
        c.runsFault(SCENE, "when coins |s < 5;end;", 3);
        c.runsFault(SCENE, "when coins |p < 5;end;", 3);
        c.runsFault("", "buy |a 1;", 3);
        d.says("4 a NUMBER that can't be. 6");
        c.runsFault(SCENE, "buy a |0;", 4);
        c.runsFault(SCENE, "buy a |21;", 4);
        c.runsFault(SCENE, "skip |0;", 4);
        c.runsFault(SCENE, "skip |21;", 4);
        c.runsFault(SCENE, "loop |0;end;", 4);
        c.runsFault(SCENE, "loop |100;end;", 4);
        c.runsFault(SCENE, "when coins a = |10000;end;", 1);
    }

    private void tooManyTooDeep() {
        d.says("a 31st ACT (at its WORD; end is none).");
        String ends = "loop 1;end;".repeat(27);
        LaterPrints x = c.with(SCENE, ends + "\n".repeat(300 - ends.length()));
        c.good("27 acts, 27 ends", x, x.live(0), 27);
        String thirty = "any;".repeat(30);
        Check.runs(x, thirty);
        c.good("30", x, x.live(0), 30);
        c.runsFault(SCENE, thirty + "|any;", 6);
        c.runsFault(SCENE, thirty + "|stop", 6);
        c.runsFault(SCENE, thirty + "|buy c 0;", 6);
        c.runsFault(SCENE, thirty + "|end;", 2);
        c.runsFault(SCENE, thirty + "|;", 2);
        String within = "any;".repeat(27) + "loop 1;loop 1;loop 1;";
        c.with(SCENE, within + "end;end;end;");
        c.runsFault(SCENE, within + "|any;end;end;end;", 6);
        c.runsFault(SCENE, within + "|loop 1;end;end;end;end;", 6);
        d.says("7 a when, loop within three others (at its WORD).");
        String[] opens = {"loop 1;", "when there p;"};
        for (int kinds = 0; kinds < 8; kinds++) {
            String three = opens[kinds & 1] + opens[kinds >> 1 & 1] + opens[kinds >> 2];
            c.with(SCENE, three + "any;end;end;end;");
            c.runsFault(SCENE, three + "|loop 1;end;end;end;end;", 7);
            c.runsFault(SCENE, three + "|when there p;end;end;end;end;", 7);
            c.runsFault(SCENE, three + "any;|when", 7);
            c.runsFault(SCENE, three + "|loop 100;", 7);
            c.with(SCENE, three + "end;" + opens[kinds & 1] + "end;end;end;" + three + "end;end;end;");
        }
    }

    private void whatActsDo() {
        d.says("buy, skip: so many prints (1 to 20);");
        LaterPrints x = c.with(SCENE, "buy a 20;skip 20;buy b 1;skip 1;");
        c.good("four", x, x.live(0), 4);
        lived("so many", x, 0, 42, 21, 21, 0);
        c.good("a", x, x.prints(0), 20);
        c.good("b", x, x.owner(41), 1);
        d.says("give: the latest PRINT that is the first one's goes to the second one;");
        LaterPrints y = c.with(SCENE, "give a b;");
        y.buy(0, 2);
        y.buy(1, 1);
        y.skip(1);
        c.good("give", y, y.live(0), 1);
        c.good("the latest of a's", y, y.owner(2), 1);
        c.good("not the first", y, y.owner(1), 0);
        c.good("the only one left", y, y.live(0), 1);
        c.good("print 1", y, y.owner(1), 1);
        c.good("none is left", y, y.live(0), 1);
        c.good("missed", y, y.lived(0), 1);
        LaterPrints z = c.with("price 0 rises 0;buyer a;buyer b;", "give a b;");
        SecondsEdges.skipTo(z, 119);
        z.buy(0, 3);
        z.live(0);
        c.good("the latest that is kept", z, z.owner(120), 1);
        d.says("any: a BUYER by a draw by how many there are buys one print.");
        LaterPrints w = c.with("price 2 rises 0;buyer a coins 9;", "any;");
        c.good("the only one", w, w.live(9999), 1);
        lived("any", w, 0, 1, 1, 2, 0);
        c.good("a's", w, w.owner(1), 0);
        LaterPrints v = c.with("price 2 rises 0;buyer a;buyer b;buyer c;buyer d;", "any;");
        for (int seed = 0; seed < 40; seed++) {
            v.live(seed);
            c.good("seed " + seed, v, v.owner(seed + 1), (seed * 3049 + 11273) % 65536 / 8 % 4);
        }
    }

    private void missed() {
        d.says("What can't be is MISSED: prints beyond SECOND 999 (all of them), a buy for which there are too few COINS "
            + "(all of them), a give of who has none, or to himself, any without BUYERS (no draw).");
        LaterPrints x = c.with("price 0 rises 0;buyer a;", "skip 2;buy a 2;buy a 1;skip 1;any;");
        SecondsEdges.skipTo(x, 998);
        c.good("five", x, x.live(0), 5);
        lived("two beyond 999, one made, two beyond it", x, 4, 1, 1, 0, 0);
        c.good("999", x, x.told(5), 999);
        LaterPrints y = c.with("price 3 rises 1;buyer a coins 6;", "buy a 2;buy a 1;any;any;");
        c.good("four", y, y.live(0), 4);
        // 3 and 4 are more than 6; 3 is paid, then 4 is too dear for the 3 that are left.
        lived("too few coins", y, 3, 1, 1, 3, 0);
        LaterPrints just = c.with("price 3 rises 1;buyer a coins 7;", "buy a 2;");
        just.live(0);
        lived("just enough", just, 0, 2, 2, 7, 0);
        LaterPrints z = c.with(SCENE, "give a b;give a a;buy a 1;give a a;give b a;give a b;");
        c.good("six", z, z.live(0), 6);
        lived("give", z, 4, 1, 1, 1, 0);
        c.good("b has it", z, z.owner(1), 1);
        LaterPrints w = c.with("scene 1 by 1;", "any;skip 3;any;");
        c.good("three", w, w.live(0), 3);
        lived("without buyers", w, 2, 3, 0, 0, 0);
    }

    private void tests() {
        d.says("when shows: the SCENE as it is now shows it; there: a PERSON is there; coins: 0 to 9,999.");
        // s is shown in second 1 alone, q is there from second 9 on.
        int[] shows = {0, 1, 0};
        for (int second = 0; second < 3; second++) {
            LaterPrints x = c.with(SCENE, "when shows s;skip 20;end;");
            SecondsEdges.skipTo(x, second);
            c.good("shows in " + second, x, x.live(0), 1 + shows[second]);
        }
        for (int second = 8; second < 10; second++) {
            LaterPrints x = c.with(SCENE, "when there q;skip 20;end;");
            SecondsEdges.skipTo(x, second);
            c.good("there in " + second, x, x.live(0), second - 7);
        }
        int[] coins = {0, 1, 9998, 9999};
        for (int has : coins) {
            for (int number : coins) {
                compare(has, "<", number, has < number);
                compare(has, ">", number, has > number);
                compare(has, "=", number, has == number);
            }
        }
    }

    private void compare(int has, String compare, int number, boolean is) {
        LaterPrints x = c.with("buyer z;buyer a coins " + has + ";", "when coins a " + compare + " " + number + ";skip 1;end;");
        c.good(has + compare + number, x, x.live(0), is ? 2 : 1);
        c.good(has + compare + number, x, x.told(5), is ? 1 : 0);
    }

    private void loops() {
        d.says("loop n (1 to 99): as often.");
        for (int often : new int[] {1, 2, 99}) {
            LaterPrints x = c.with(SCENE, "loop " + often + ";skip 1;end;");
            c.good(often + " times", x, x.live(0), 1 + often);
            c.good(often + " prints", x, x.told(5), often);
        }
        LaterPrints y = c.with(SCENE, "loop 2;loop 3;loop 4;skip 1;end;end;end;skip 20;");
        c.good("one within the other", y, y.live(0), 1 + 2 * (1 + 3 * (1 + 4)) + 1);
        c.good("prints", y, y.told(5), 2 * 3 * 4 + 20);
        LaterPrints z = c.with(SCENE, "loop 99;end;");
        c.good("of nothing", z, z.live(0), 1);
    }

    private void most300() {
        d.says("At most 300 ACTS (when, loop count as one each time they are come to from ahead; end does not).");
        LaterPrints x = c.with("", "skip 1;skip 1;loop 99;skip 1;skip 1;skip 1;end;");
        c.good("2, 1 and 297", x, x.live(0), 300);
        lived("none is left", x, 0, 299, 0, 0, 0);
        LaterPrints y = c.with("", "skip 1;skip 1;loop 99;skip 1;skip 1;skip 1;end;stop;");
        c.good("stop would be the 301st", y, y.live(0), 300);
        lived("it is left", y, 0, 299, 0, 0, 1);
        LaterPrints z = c.with("", "skip 1;skip 1;loop 99;skip 1;skip 1;skip 1;end;loop 1;end;");
        c.good("a loop of nothing would be it", z, z.live(0), 300);
        lived("it is left", z, 0, 299, 0, 0, 1);
        LaterPrints w = c.with("scene 1 by 1;person p at 0 0 goes rest;", "loop 99;when there p;skip 1;end;loop 1;end;end;skip 1;skip 1;");
        c.good("1, 3 each time and 2", w, w.live(0), 300);
        lived("none is left", w, 0, 101, 0, 0, 0);
        LaterPrints v = c.with("buyer a coins 5;", "loop 99;when coins a > 5;skip 1;end;loop 1;skip 1;end;end;skip 1;");
        c.good("a when that does not hold, a loop, a skip, each time", v, v.live(0), 299);
        LaterPrints u = c.with("", "loop 99;loop 2;end;end;");
        c.good("an inner loop is come to each time", u, u.live(0), 100);
        LaterPrints t = c.with("", "skip 1;stop;skip 1;");
        c.good("behind stop nothing is done", t, t.live(0), 2);
        lived("nor left", t, 0, 1, 0, 0, 0);
        LaterPrints s = c.with("", "skip 1;loop 99;skip 1;skip 1;skip 1;end;stop;any;");
        c.good("stop as the 300th", s, s.live(0), 300);
        lived("nothing is left", s, 0, 298, 0, 0, 0);
    }

    private void lives() {
        d.says("LIVED by a seed (0 to 9,999): all is as it is then.");
        LaterPrints x = c.with(SCENE, "buy a 2;skip 1;");
        c.bad("-1", x, x.live(-1), 1);
        c.bad("10,000", x, x.live(10000), 1);
        c.good("nothing done", x, x.told(5), 0);
        c.good("0", x, x.live(0), 2);
        c.good("9,999", x, x.live(9999), 2);
        c.good("second", x, x.told(5), 6);
        c.good("coins", x, x.coins(0), 46);
        c.good("prints", x, x.prints(0), 4);
        c.good("p has gone", x, x.person(0, 0), 3);
    }

    private void draws() {
        d.says("Draws: s, at first the seed, becomes what is left of s times 3,049 and 11,273 by 65,536; "
            + "the draw by n is the rest of s by 8, rounded down, by n.");
        for (int buyers = 1; buyers <= 4; buyers++) {
            String scene = "price 0 rises 0;buyer a;buyer b;buyer c;buyer d;".substring(0, 16 + 8 * buyers);
            for (int seed : new int[] {0, 1, 21, 4999, 5000, 9998, 9999}) {
                LaterPrints x = c.with(scene, "loop 99;any;end;");
                x.live(seed);
                long s = seed;
                for (int print = 1; print <= 99; print++) {
                    s = (s * 3049 + 11273) % 65536;
                    c.good("seed " + seed + " by " + buyers, x, x.owner(print), s / 8 % buyers);
                }
            }
        }
    }

    private void marks() {
        d.says("MARKS, at most 3: the SCENE with all that became of it, the RUNS are kept as they are; "
            + "all is taken back to the latest MARK, which is gone then.");
        LaterPrints x = c.with(SCENE, "skip 1;skip 1;");
        x.buy(0, 1);
        String one = Check.state(x);
        c.good("one", x, x.mark(), 1);
        x.teach(0, 0, 2);
        x.build(2, 0, true);
        x.place(0, 0, 0);
        x.price(9, 9);
        x.earn(1, 9);
        x.give(1, 1);
        String two = Check.state(x);
        c.good("two", x, x.mark(), 2);
        x.back(1, 1);
        c.good("another scene", x, Check.scene(x, ""), 0);
        c.good("other RUNS", x, Check.runs(x, "stop;"), 1);
        String three = Check.state(x);
        c.good("three", x, x.mark(), 3);
        c.bad("four", x, x.mark(), 4);
        x.skip(9);
        c.good("to the third", x, x.undo(), 2);
        c.due("as it was", Check.state(x).equals(three), true);
        c.good("its RUNS", x, x.live(0), 1);
        c.good("to the second", x, x.undo(), 1);
        c.good("its RUNS", x, x.live(0), 2);
        c.good("to the first", x, x.undo(), 0);
        c.due("other things than then", one.equals(two), false);
        c.good("its RUNS", x, x.live(0), 2);
        c.bad("none is left", x, x.undo(), 6);
        LaterPrints y = c.with(SCENE, "skip 1;skip 1;");
        y.buy(0, 1);
        String all = Check.state(y);
        y.mark();
        y.teach(0, 0, 2);
        y.build(2, 0, true);
        y.place(0, 0, 0);
        y.price(9, 9);
        y.earn(1, 9);
        y.give(1, 1);
        y.skip(9);
        y.undo();
        c.due("as it was", Check.state(y).equals(all), true);
    }

    private void fractions() {
        d.says("FRACTIONS are told by top() and bottom() without a common divisor, the bottom above 0; 0 is 0 by 1.");
        LaterPrints x = c.with("buyer a coins 30;buyer b coins 0;", "skip 1;");
        c.fraction("at first", x, 0, 1);
        c.good("2 of 16 in one second", x, x.comesBack(1, 2));
        c.fraction("an eighth", x, 1, 8);
        c.good("30 by 20 seeds", x, x.mean(0, 20));
        c.fraction("600 by 20", x, 30, 1);
        c.good("0 of 16", x, x.comesBack(12, 0));
        c.fraction("nothing", x, 0, 1);
        c.good("in no second", x, x.comesBack(0, 16));
        c.fraction("nothing", x, 0, 1);
        LaterPrints y = c.with("price 1 rises 0;buyer a coins 1;buyer b coins 0;", "any;");
        for (int many = 1; many <= 20; many++) {
            int sum = 0;
            for (int seed = 0; seed < many; seed++) {
                sum += (seed * 3049 + 11273) % 65536 / 8 % 2;
            }
            int common = sum == 0 ? many : java.math.BigInteger.valueOf(sum).gcd(java.math.BigInteger.valueOf(many)).intValue();
            c.good("by " + many, y, y.mean(0, many));
            c.fraction(sum + " by " + many, y, sum / common, many / common);
        }
    }
}
