/** The sentences of Terms up to the parts of a scene: trays, texts, tokens, names, what a part may tell. */
final class TermsEdges {
    private static final String SIZE = "scene 3 by 2;";
    private static final String ONE = SIZE + "person p at 0 0 goes rest;";
    private static final String RESERVED = "scene, by, price, rises, wall, person, at, comes, leaves, goes, sight, of, with, "
        + "empty, buyer, coins, east, south, west, north, rest, buy, skip, give, any, when, shows, there, loop, end, stop";

    private final Check c;
    private final Doc d;

    TermsEdges(Check c, Doc d) {
        this.c = c;
        this.d = d;
    }

    void all() {
        trays();
        texts();
        tokens();
        parts();
        stepWords();
        names();
        oneNameOneThing();
        sizes();
        prices();
        walls();
        persons();
        sights();
        buyers();
        numbering();
    }

    private void trays() {
        d.says("TRAYS 0 to 3 are MISSING at first, or rows of 0 to 60 numbers of 8 bits (sort 0), 16 (1), 32 (2) or 64 (3).");
        LaterPrints x = new LaterPrints();
        c.bad("tray -1", x, x.read(-1, 0), 1);
        for (int tray = 0; tray <= 3; tray++) {
            c.bad("tray " + tray, x, x.read(tray, 0), 2);
        }
        c.bad("tray 4", x, x.read(4, 0), 1);
        c.good("0 numbers", x, x.tray(0, 0, 0));
        c.bad("none there", x, x.read(0, 0), 3);
        c.good("60 numbers", x, x.tray(1, 0, 60));
        c.good("the last", x, x.read(1, 59), 0);
        c.bad("behind it", x, x.read(1, 60), 3);
        c.bad("61 numbers", x, x.tray(2, 0, 61), 1);
        c.bad("-1 numbers", x, x.tray(2, 0, -1), 1);
        c.bad("sort -1", x, x.tray(2, -1, 1), 1);
        c.bad("sort 4", x, x.tray(2, 4, 1), 1);
        c.bad("missing still", x, x.read(2, 0), 2);
        long[] most = {127, 32767, 2147483647L, Long.MAX_VALUE};
        for (int sort = 0; sort <= 3; sort++) {
            c.good("sort " + sort, x, x.tray(3, sort, 1));
            wraps(x, most[sort], most[sort]);
            wraps(x, most[sort] + 1, -most[sort] - 1);
            wraps(x, -most[sort] - 1, -most[sort] - 1);
            wraps(x, -most[sort] - 2, most[sort]);
            wraps(x, 2 * most[sort] + 1, -1);
            wraps(x, 2 * most[sort] + 2, 0);
        }
    }

    private void wraps(LaterPrints x, long written, long read) {
        c.good("write " + written, x, x.write(3, 0, written));
        c.good("read " + written, x, x.read(3, 0), read);
    }

    private void texts() {
        d.says("A SCENE is a TEXT of at most 900 bytes.");
        String full = "buyer a" + " ".repeat(892) + ";";
        LaterPrints x = new LaterPrints();
        Check.feed(x, full);
        c.bad("901", x, x.scene(901), 1);
        c.good("900, the last of them a sign", x, x.scene(900), 0);
        c.good("a buyer", x, x.told(4), 1);
        LaterPrints y = new LaterPrints();
        Check.feed(y, full);
        c.bad("899, without that sign", y, y.scene(899), 9);
        c.due("fault", y.fault(0), 2);
        c.due("its place", y.fault(1), 899);
        LaterPrints z = new LaterPrints();
        Check.feed(z, full);
        c.good("none of them", z, z.scene(0), 0);
        c.good("no buyer", z, z.told(4), 0);
        lastBytes();
    }

    /** A token that ends with the tape: behind it there is nothing that could be read, not even to compare it with a word. */
    private void lastBytes() {
        String words = "scene price wall person sight buyer leaves";
        for (String word : words.split(" ")) {
            for (int letters = 1; letters <= word.length(); letters++) {
                String last = word.substring(0, letters);
                boolean isWhole = letters == word.length() && !word.equals("leaves");
                boolean isAhead = word.equals("wall") || word.equals("person") || word.equals("sight");
                // What begins a part lacks what must stand behind it; anything else can't stand there itself.
                String blanks = " ".repeat(900 - letters);
                c.sceneFault(isWhole && !isAhead ? blanks + last + "|" : blanks + "|" + last, 2);
            }
        }
        c.sceneFault(" ".repeat(896) + "|1234", 2);
        c.sceneFault(" ".repeat(895) + "|12345", 1);
        c.sceneFault(" ".repeat(899) + "|!", 1);
        c.sceneFault(" ".repeat(899) + "|;", 2);
    }

    private void tokens() {
        d.says("TOKENS, as long as they go, between them blanks (10, 32): WORDS (small letters), NUMBERS (1 to 4 digits), "
            + "SIGNS ; &lt; &gt; =");
        for (int sign = 0; sign < 256; sign++) {
            byteBetween((char) sign);
        }
        c.with("scene 3 by 2;");
        c.with("scene3by2;");
        c.with("\n\nscene\n3\nby\n2\n;\n");
        c.with("scene 03 by 002;price 0099 rises 0020;");
        c.sceneFault("|sce ne 3 by 2;", 2);
        c.sceneFault("scene 3 |0 by 2;", 2);
        c.sceneFault("|sceneby 3 by 2;", 2);
        c.sceneFault("scene 3 by 2 |=;", 2);
        c.sceneFault("scene |00003 by 2;", 1);
        c.sceneFault("scene |123456789012345678901234567890 by 2;", 1);
    }

    /** What each byte is, told by what it makes of a scene if it stands behind its first word. */
    private void byteBetween(char sign) {
        String text = "scene" + sign + "3 by 2;";
        LaterPrints x = new LaterPrints();
        Check.scene(x, text);
        int fault;
        int place = 5;
        if (sign == 10 || sign == 32 || sign == '0') {
            fault = 0;
            place = -1;
        } else if (sign >= '1' && sign <= '9') {
            fault = 4;
        } else if (sign >= 'a' && sign <= 'z') {
            fault = 2;
            place = 0;
        } else {
            fault = sign == ';' || sign == '<' || sign == '>' || sign == '=' ? 2 : 1;
        }
        c.due("byte " + (int) sign, x.status(), fault == 0 ? 0 : 9);
        c.due("byte " + (int) sign + ", fault", x.fault(0), fault);
        c.due("byte " + (int) sign + ", place", x.fault(1), place);
    }

    private void parts() {
        d.says("SCENE: {PART}.");
        c.good("no PART", c.with(""), 0, 0);
        allFull();
        d.says("PART: scene NUMBER by NUMBER ;");
        part("", "scene 3 by 2 ;");
        d.says("or price NUMBER rises NUMBER ;");
        part("", "price 3 rises 2 ;");
        d.says("or wall NUMBER NUMBER ;");
        part(SIZE, "wall 2 1 ;");
        d.says("or person NAME at NUMBER NUMBER [comes NUMBER] [leaves NUMBER] goes STEP {STEP} ;");
        part(SIZE, "person p at 2 1 goes east ;");
        part(SIZE, "person p at 2 1 comes 1 goes east east ;");
        part(SIZE, "person p at 2 1 leaves 1 goes east west ;");
        part(SIZE, "person p at 2 1 comes 1 leaves 2 goes east south west north rest ;");
        d.says("or sight NAME of NAME at NUMBER NUMBER ;");
        part(ONE, "sight s of p at 2 1 ;");
        d.says("or sight NAME of NAME with NAME ;");
        part(ONE + "person q at 1 0 goes rest;", "sight s of p with q ;");
        d.says("or sight NAME empty ;");
        part(SIZE, "sight s empty ;");
        d.says("or buyer NAME [coins NUMBER] ;");
        part("", "buyer a ;");
        part("", "buyer a coins 7 ;");
        c.sceneFault("buyer a coins |buyer b;", 2);
        d.says("({ } any number of times, [ ] perhaps.)");
        c.with("buyer a;buyer b coins 3;" + SIZE + "person p at 0 0 goes rest;person q at 1 0 comes 1 leaves 2 goes rest rest;");
        c.sceneFault(SIZE + "person p at 0 0 comes 1 |comes 1 goes rest;", 2);
        c.sceneFault(SIZE + "person p at 0 0 leaves 1 |leaves 1 goes rest;", 2);
        c.sceneFault("buyer a coins 1 |coins 1;", 2);
    }

    /** All that a scene may hold, at once. */
    private void allFull() {
        StringBuilder text = new StringBuilder("scene 6 by 5;price 99 rises 20;");
        for (int i = 0; i < 25; i++) {
            text.append("wall ").append(i % 6).append(' ').append(i / 6).append(';');
        }
        for (int i = 25; i < 30; i++) {
            text.append("person p").append((char) ('a' + i - 25)).append(" at ").append(i % 6).append(' ').append(i / 6);
            text.append(" goes east east east east east east east rest;");
        }
        for (int i = 0; i < 6; i++) {
            text.append("sight s").append((char) ('a' + i)).append(" empty;");
        }
        text.append("buyer ba;buyer bb;buyer bc;buyer bd;");
        LaterPrints x = c.with(text.toString());
        int[] told = {6, 5, 5, 6, 4, 0, 99, 20, 31, 0, 0, 25, 400, 0};
        for (int what = 0; what < told.length; what++) {
            c.good("told " + what, x, x.told(what), told[what]);
        }
    }

    /** A part of tokens with blanks between them: it is taken, and no token of it may be left out or be a sign. */
    private void part(String ahead, String part) {
        c.with(ahead + part);
        String[] tokens = part.split(" ");
        StringBuilder text = new StringBuilder(ahead);
        for (int i = 0; i < tokens.length; i++) {
            if (i > 0) {
                c.sceneFault(text + "|", 2);
            }
            c.sceneFault(text + (i > 0 ? " " : "") + "|< ;", 2);
            text.append(i > 0 ? " " : "").append(tokens[i]);
        }
        c.sceneFault(text + " |;", 2);
    }

    private void stepWords() {
        d.says("STEP: east, south, west, north, rest.");
        String[] words = {"east", "south", "west", "north", "rest"};
        for (int step = 0; step < 5; step++) {
            LaterPrints x = c.with(SIZE + "person p at 0 0 goes " + words[step] + ";");
            c.good(words[step], x, x.stepOf(0, 0), step);
        }
        for (String word : new String[] {"up", "eas", "easts", "coins", "buy", "5", ";"}) {
            c.sceneFault(SIZE + "person p at 0 0 goes |" + word, 2);
            c.sceneFault(SIZE + "person p at 0 0 goes rest |" + word.replace(";", "="), 2);
        }
    }

    private void names() {
        d.says("NAME: a WORD of 1 to 8 letters that is none of " + RESERVED + ".");
        for (int letters = 1; letters <= 8; letters++) {
            c.with("buyer " + "z".repeat(letters) + ";");
        }
        c.sceneFault("buyer |zzzzzzzzz;", 2);
        c.sceneFault("buyer |" + "z".repeat(300) + ";", 2);
        for (String word : RESERVED.split(", ")) {
            c.sceneFault(SIZE + "person |" + word + " at 0 0 goes rest;", 2);
            c.sceneFault(SIZE + "sight |" + word + " empty;", 2);
            c.sceneFault("buyer |" + word + ";", 2);
            c.sceneFault(ONE + "sight s of |" + word + " at 0 0;", 2);
            c.with("buyer " + word + "x;buyer x" + word + ";");
        }
        String[][] alike = {{"a", "aa"}, {"a", "ba"}, {"ab", "ba"}, {"b", "bb"}, {"z", "zz"}, {"az", "b"}, {"abcdefgh", "abcdefgi"},
            {"abcdefgh", "bbcdefgh"}, {"abcdefgh", "abcdefg"}, {"abcdefgh", "bcdefgh"}, {"zzzzzzzy", "zzzzzzzz"}, {"ac", "bb"}};
        for (String[] two : alike) {
            LaterPrints x = c.with("buyer " + two[0] + ";buyer " + two[1] + ";");
            Check.runs(x, "buy " + two[1] + " 1;buy " + two[0] + " 1;");
            x.live(0);
            c.good(two[0], x, x.owner(2), 0);
            c.good(two[1], x, x.owner(1), 1);
        }
    }

    private void oneNameOneThing() {
        d.says("One NAME is of one thing alone.");
        String[] things = {"person # at 0 0 goes rest;", "sight # empty;", "buyer #;"};
        String[] others = {"person | at 1 0 goes rest;", "sight | empty;", "buyer |;"};
        for (String thing : things) {
            for (String other : others) {
                c.sceneFault(SIZE + thing.replace("#", "n") + other.replace("|", "|n"), 3);
                c.with(SIZE + thing.replace("#", "n") + other.replace("|", "nn"));
            }
        }
    }

    private void sizes() {
        d.says("SCENE: WIDE (1 to 6) by DEEP (1 to 5), told ahead of all walls, persons, sights.");
        for (int wide = 0; wide <= 8; wide++) {
            for (int deep = 0; deep <= 8; deep++) {
                if (wide < 1 || wide > 6) {
                    c.sceneFault("scene |" + wide + " by " + deep + ";", 4);
                } else if (deep < 1 || deep > 5) {
                    c.sceneFault("scene " + wide + " by |" + deep + ";", 4);
                } else {
                    LaterPrints x = c.with("scene " + wide + " by " + deep + ";");
                    c.good("wide", x, x.told(0), wide);
                    c.good("deep", x, x.told(1), deep);
                    c.good("the last cell", x, x.wall(wide - 1, deep - 1), 0);
                    c.bad("a column more", x, x.wall(wide, deep - 1), 1);
                    c.bad("a row more", x, x.wall(wide - 1, deep), 1);
                }
            }
        }
        c.sceneFault("scene |9999 by 1;", 4);
        c.sceneFault("|wall 0 0;" + SIZE, 2);
        c.sceneFault("|person p at 0 0 goes rest;" + SIZE, 2);
        c.sceneFault("|sight s empty;" + SIZE, 2);
        c.with("buyer a;price 1 rises 1;" + SIZE + "wall 0 0;");
    }

    private void prices() {
        d.says("PRICE of the first print (0 to 99; 5 without), by how much it RISES with each (0 to 20; 1 without).");
        int[][] prices = {{0, 0}, {99, 20}, {0, 20}, {99, 0}, {1, 1}};
        for (int[] price : prices) {
            LaterPrints x = c.with("price " + price[0] + " rises " + price[1] + ";");
            c.good("the first", x, x.priceOf(1), price[0]);
            c.good("rises", x, x.told(7), price[1]);
        }
        LaterPrints y = c.with("buyer a;");
        c.good("without", y, y.priceOf(1), 5);
        c.good("without", y, y.told(7), 1);
        c.sceneFault("price |100 rises 0;", 4);
        c.sceneFault("price 99 rises |21;", 4);
        c.sceneFault("price |9999 rises 9999;", 4);
        // What a scene tells is not carried on to the next one.
        Check.scene(y, "price 7 rises 3;");
        Check.scene(y, "buyer b;");
        c.good("without, in the next scene", y, y.priceOf(1), 5);
        c.good("without, in the next scene", y, y.told(7), 1);
    }

    private void walls() {
        d.says("WALL: a CELL (column 0 to WIDE less 1, row 0 to DEEP less 1) where nobody can be.");
        LaterPrints x = c.with("scene 6 by 5;wall 0 0;wall 5 0;wall 0 4;wall 5 4;person p at 4 4 goes east;");
        int[][] corners = {{0, 0}, {5, 0}, {0, 4}, {5, 4}};
        for (int[] corner : corners) {
            c.good("a corner", x, x.wall(corner[0], corner[1]), 1);
            c.bad("nobody can be put there", x, x.place(0, corner[0], corner[1]), 7);
        }
        c.good("four", x, x.told(11), 4);
        c.good("nobody can go there", x, x.placeIn(0, 9), 44);
        c.sceneFault("scene 6 by 5;wall |6 0;", 4);
        c.sceneFault("scene 6 by 5;wall 5 |5;", 4);
        c.sceneFault("scene 1 by 1;wall |1 1;", 4);
        c.sceneFault("scene 1 by 1;wall 0 |1;", 4);
        LaterPrints y = c.with("scene 1 by 1;wall 0 0;");
        c.good("every cell a wall", y, y.told(11), 1);
    }

    private void persons() {
        d.says("PERSONS, at most 5: AT a CELL, COMES in a SECOND (0 to 99; 0 without), LEAVES in one (1 to 999; never without), "
            + "goes by 1 to 8 STEPS (east: a column more, south: a row more, west, north: less).");
        String person = "scene 6 by 5;person p at 2 2 ";
        LaterPrints x = c.with(person + "comes 99 leaves 999 goes east east east east east east east east;");
        c.good("comes", x, x.person(0, 2), 99);
        c.good("leaves", x, x.person(0, 3), 999);
        c.good("eight steps", x, x.person(0, 4), 8);
        c.good("the eighth", x, x.stepOf(0, 7), 0);
        LaterPrints y = c.with(person + "comes 0 leaves 1 goes east;");
        c.good("comes", y, y.person(0, 2), 0);
        c.good("leaves", y, y.person(0, 3), 1);
        c.good("one step", y, y.person(0, 4), 1);
        LaterPrints z = c.with(person + "comes 9 goes east;person q at 5 4 leaves 9 goes east;");
        c.bad("never", z, z.person(0, 3), 6);
        c.good("in second 0, not as the one ahead", z, z.person(1, 2), 0);
        c.sceneFault(person + "comes |100 goes east;", 4);
        c.sceneFault(person + "leaves |0 goes east;", 4);
        c.sceneFault(person + "leaves |1000 goes east;", 4);
        c.sceneFault(person + "goes|;", 2);
        c.sceneFault(person + "goes east east east east east east east east |east;", 6);
        c.sceneFault("scene 6 by 5;person p at |6 4 goes east;", 4);
        c.sceneFault("scene 6 by 5;person p at 5 |5 goes east;", 4);
        int[] cells = {23, 32, 21, 12, 22};
        String[] words = {"east", "south", "west", "north", "rest"};
        for (int step = 0; step < 5; step++) {
            LaterPrints w = c.with(person + "goes " + words[step] + ";");
            c.good(words[step], w, w.placeIn(0, 1), cells[step]);
        }
        String five = "scene 6 by 5;";
        for (int i = 0; i < 5; i++) {
            five += "person p" + (char) ('a' + i) + " at " + i + " 4 goes rest;";
        }
        c.good("five", c.with(five), 0, 0);
        c.sceneFault(five + "|person pf at 5 4 goes rest;", 6);
    }

    private void sights() {
        d.says("SIGHTS, at most 6: a PERSON at a CELL; two PERSONS beside each other (side by side, or one above the other); "
            + "nobody there at all.");
        String six = SIZE;
        for (int i = 0; i < 6; i++) {
            six += "sight s" + (char) ('a' + i) + " empty;";
        }
        LaterPrints x = c.with(six);
        c.good("six", x, x.told(3), 6);
        c.good("all are shown", x, x.told(10), 63);
        c.sceneFault(six + "|sight sg empty;", 6);
        beside(22, 23, 1);
        beside(22, 21, 1);
        beside(22, 12, 1);
        beside(22, 32, 1);
        beside(22, 33, 0);
        beside(22, 11, 0);
        beside(22, 24, 0);
        beside(22, 42, 0);
        beside(15, 20, 0);
        beside(5, 10, 0);
        beside(44, 45, 1);
        beside(35, 45, 1);
        LaterPrints y = c.with("scene 6 by 5;person p at 5 4 comes 1 leaves 3 goes rest;sight a of p at 5 4;sight b empty;");
        int[] shown = {2, 1, 1, 2};
        for (int second = 0; second < 4; second++) {
            c.good("second " + second, y, y.showsIn(second), shown[second]);
        }
    }

    private void beside(int one, int other, int is) {
        String text = "scene 6 by 5;person p at " + one % 10 + " " + one / 10 + " goes rest;person q at " + other % 10 + " "
            + other / 10 + " leaves 1 goes rest;sight s of p with q;sight t of q with p;";
        LaterPrints x = c.with(text);
        c.good(one + " and " + other, x, x.told(10), is * 3);
        c.good("not with one who is gone", x, x.showsIn(1), 0);
    }

    private void buyers() {
        d.says("BUYERS, at most 4: COINS (0 to 9,999; 100 without).");
        LaterPrints x = c.with("buyer a coins 0;buyer b coins 9999;buyer c;buyer d coins 1;");
        int[] coins = {0, 9999, 100, 1};
        for (int buyer = 0; buyer < 4; buyer++) {
            c.good("coins", x, x.coins(buyer), coins[buyer]);
        }
        c.sceneFault("buyer a coins |10000;", 1);
        c.sceneFault("buyer a;buyer b;buyer c;buyer d;|buyer e;", 6);
    }

    private void numbering() {
        d.says("All are numbered as they stand; what a PART names must be told ahead.");
        LaterPrints x = c.with("buyer z coins 1;scene 4 by 1;person q at 3 0 goes east;sight y empty;person p at 0 0 goes west;"
            + "buyer a coins 2;sight b of p at 0 0;");
        c.good("q", x, x.stepOf(0, 0), 0);
        c.good("p", x, x.stepOf(1, 0), 2);
        c.good("y", x, x.sight(0, 0), 2);
        c.good("b", x, x.sight(1, 1), 1);
        c.good("z", x, x.coins(0), 1);
        c.good("a", x, x.coins(1), 2);
        c.sceneFault(SIZE + "sight s of |p at 0 0;person p at 0 0 goes rest;", 3);
        c.sceneFault(ONE + "sight s of p with |q;person q at 1 0 goes rest;", 3);
        c.sceneFault(ONE + "sight s of |q with p;person q at 1 0 goes rest;", 3);
    }
}
