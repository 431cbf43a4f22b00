/** The sentences of Terms on the faults of a scene, and on a scene that is taken. */
final class FaultEdges {
    private static final String SIZE = "scene 3 by 2;";
    private static final String ONE = SIZE + "person p at 0 0 goes rest;";

    private final Check c;
    private final Doc d;

    FaultEdges(Check c, Doc d) {
        this.c = c;
        this.d = d;
    }

    void all() {
        firstAlongTheText();
        cannotStand();
        names();
        numbers();
        toldAlready();
        tooMany();
        taken();
    }

    private void firstAlongTheText() {
        d.says("FAULTS, the first along the text (of one TOKEN the least kind):");
        c.sceneFault("scene |7 by 9;wall 9 9;", 4);
        c.sceneFault("scene 6 by |9;!", 4);
        c.sceneFault("|wall 0 0;!", 2);
        c.sceneFault(ONE + "person |p at 9 9 goes up;", 3);
        c.sceneFault(ONE + "sight |p of q at 9 9;", 3);
        // One token, two kinds: a row that can't be and stands in a wall's column; a number of five digits that can't be.
        c.sceneFault(SIZE + "wall 0 1;wall 0 |2;", 4);
        c.sceneFault("scene |77777 by 1;", 1);
        c.sceneFault(SIZE + "person |12345 at", 1);
        c.sceneFault(SIZE + "person p at 0 0 goes east east east east east east east east |12345;", 1);
        c.sceneFault(SIZE + "person p at 0 0 goes east east east east east east east east |up;", 2);
        d.says("1 no TOKEN begins so (a NUMBER of 5 digits and more: at its first).");
        for (String no : new String[] {"!", "A", "Z", "{", "`", "/", ":", "?", "\t", "\r", "-1", "+", ",", ".", "\u00e9", "\u00ff", "\0"}) {
            c.sceneFault("|" + no, 1);
            c.sceneFault(SIZE + "|" + no, 1);
            c.sceneFault("buyer |" + no, 1);
            c.sceneFault("buyer a|" + no, 1);
            c.sceneFault("scene 3|" + no, 1);
        }
        c.sceneFault("scene |12345", 1);
        c.sceneFault("scene |00001 by 1;", 1);
        c.sceneFault("buyer a coins |100000;", 1);
        c.sceneFault("|00000", 1);
        c.sceneFault("buyer a coins 9999 |99999;", 1);
    }

    private void cannotStand() {
        d.says("2 it can't stand there (the end: the text's length; a WORD of 9 letters and more where a NAME must stand; "
            + "wall, person, sight ahead of scene: at that WORD).");
        c.sceneFault("scene|", 2);
        c.sceneFault("scene 3 by 2|", 2);
        c.sceneFault("scene 3 by 2  \n|", 2);
        c.sceneFault("buyer |abcdefghi;", 2);
        c.sceneFault(SIZE + "person |abcdefghi at 0 0 goes rest;", 2);
        c.sceneFault(SIZE + "sight |abcdefghi empty;", 2);
        c.sceneFault(ONE + "sight s of |abcdefghi at 0 0;", 2);
        c.sceneFault(ONE + "sight s of p with |abcdefghi;", 2);
        c.sceneFault("|wall 0 0;", 2);
        c.sceneFault("buyer a;|person p at 0 0 goes rest;", 2);
        c.sceneFault("price 1 rises 1; |sight s empty;", 2);
        c.sceneFault("|;", 2);
        c.sceneFault(SIZE + "|;", 2);
        c.sceneFault("|east;", 2);
        c.sceneFault("|skip 1;", 2);
        c.sceneFault("|a;", 2);
        c.sceneFault("|5;", 2);
    }

    private void names() {
        d.says("3 a new NAME that is taken; a NAME that is no such one told ahead.");
        c.sceneFault("buyer abcdefgh;buyer |abcdefgh;", 3);
        c.sceneFault(ONE + "person |p at 1 0 goes rest;", 3);
        c.sceneFault(ONE + "sight |p empty;", 3);
        c.sceneFault(ONE + "sight s empty;sight |s empty;", 3);
        c.sceneFault(ONE + "sight s empty;buyer |s;", 3);
        c.sceneFault("buyer b;" + SIZE + "person |b at 0 0 goes rest;", 3);
        c.sceneFault(SIZE + "sight s of |p at 0 0;", 3);
        c.sceneFault(ONE + "sight s of |s at 0 0;", 3);
        c.sceneFault(ONE + "sight s empty;sight t of |s at 0 0;", 3);
        c.sceneFault(ONE + "buyer b;sight t of p with |b;", 3);
        c.sceneFault(ONE + "sight t of p with |t;", 3);
    }

    private void numbers() {
        d.says("4 a NUMBER that can't be. 5");
        c.sceneFault("scene |0 by 1;", 4);
        c.sceneFault("scene 1 by |0;", 4);
        c.sceneFault("price |100 rises 1;", 4);
        c.sceneFault("price 1 rises |21;", 4);
        c.sceneFault(SIZE + "wall |3 0;", 4);
        c.sceneFault(SIZE + "wall 0 |2;", 4);
        c.sceneFault(SIZE + "person p at |3 1 goes rest;", 4);
        c.sceneFault(SIZE + "person p at 2 |2 goes rest;", 4);
        c.sceneFault(SIZE + "person p at 0 0 comes |100 goes rest;", 4);
        c.sceneFault(SIZE + "person p at 0 0 leaves |0 goes rest;", 4);
        c.sceneFault(ONE + "sight s of p at |3 1;", 4);
        c.sceneFault(ONE + "sight s of p at 2 |2;", 4);
        c.with(ONE + "sight s of p at 2 1;");
    }

    private void toldAlready() {
        d.says("scene, price told already (at that WORD); a WALL where one, or a PERSON, is told already, "
            + "a PERSON AT a CELL of these (at the row); a PERSON with itself (at the second NAME).");
        c.sceneFault(SIZE + "|scene 3 by 2;", 5);
        c.sceneFault(SIZE + "buyer a;|scene", 5);
        c.sceneFault("price 5 rises 1;|price 5 rises 1;", 5);
        c.sceneFault("price 5 rises 1;buyer a;|price", 5);
        c.sceneFault(SIZE + "wall 2 1;wall 2 |1;", 5);
        c.sceneFault(SIZE + "person p at 2 1 goes rest;wall 2 |1;", 5);
        c.sceneFault(SIZE + "person p at 2 1 comes 99 goes rest;wall 2 |1;", 5);
        c.sceneFault(SIZE + "wall 2 1;person p at 2 |1 goes rest;", 5);
        c.sceneFault(SIZE + "person p at 2 1 leaves 1 goes rest;person q at 2 |1 comes 99 goes rest;", 5);
        c.with(SIZE + "wall 2 1;wall 2 0;person p at 1 1 goes rest;person q at 1 0 goes rest;sight s of p at 2 1;");
        c.sceneFault(ONE + "sight s of p with |p;", 5);
        c.sceneFault(ONE + "person q at 1 0 goes rest;sight s of q with |q;", 5);
        c.with(ONE + "person q at 1 0 goes rest;sight s of q with p;sight t of q with p;");
        // A price and a size told by another scene are not told already.
        LaterPrints x = c.with("price 5 rises 1;" + ONE);
        c.good("the same again", x, Check.scene(x, "price 5 rises 1;" + ONE), 0);
        c.bad("a fault", x, Check.scene(x, "price 5 rises 1;" + ONE + "scene"), 9);
        c.good("the same again", x, Check.scene(x, "price 5 rises 1;" + ONE), 0);
    }

    private void tooMany() {
        d.says("6 a sixth person, a seventh sight, a fifth buyer (at that WORD), a ninth STEP (at it).");
        StringBuilder full = new StringBuilder("scene 6 by 5;");
        for (int i = 0; i < 5; i++) {
            full.append("person p").append((char) ('a' + i)).append(" at ").append(i).append(" 0 goes ");
            full.append("rest rest rest rest rest rest rest rest;");
        }
        for (int i = 0; i < 6; i++) {
            full.append("sight s").append((char) ('a' + i)).append(" of pa with pb;");
        }
        full.append("buyer ba;buyer bb;buyer bc;buyer bd;");
        c.with(full.toString());
        c.sceneFault(full + "|person pf at 5 0 goes rest;", 6);
        c.sceneFault(full + "|person", 6);
        c.sceneFault(full + "|person pa at 9 9", 6);
        c.sceneFault(full + "|sight sg empty;", 6);
        c.sceneFault(full + "|sight", 6);
        c.sceneFault(full + "|buyer be;", 6);
        c.sceneFault(full + "|buyer", 6);
        c.sceneFault(SIZE + "person p at 0 0 goes rest rest rest rest rest rest rest rest |rest rest;", 6);
        // A scene that was full leaves room for the next one.
        LaterPrints x = c.with(full.toString());
        c.good("full again", x, Check.scene(x, full.toString()), 6);
    }

    private void taken() {
        d.says("A SCENE that is taken is there in place of that ahead; it is SECOND 0: who COMES in SECOND 0 is there; "
            + "no print is made; there are no RUNS.");
        LaterPrints x = c.with("price 0 rises 2;scene 6 by 5;wall 5 4;person p at 0 0 leaves 1 goes rest;sight s empty;buyer a;",
            "skip 3;");
        x.buy(0, 3);
        x.live(0);
        c.good("six prints", x, x.told(5), 6);
        c.good("gone", x, x.told(9), 1);
        c.good("taken", x, Check.scene(x, "scene 2 by 1;person q at 1 0 comes 1 goes rest;person p at 0 0 goes rest;buyer b;"), 0);
        int[] told = {2, 1, 2, 0, 1, 0, 5, 1, 2, 0, 0, 0, 100, 0};
        for (int what = 0; what < told.length; what++) {
            c.good("told " + what, x, x.told(what), told[what]);
        }
        c.bad("no print", x, x.owner(1), 1);
        c.bad("no RUNS", x, x.live(0), 6);
        c.bad("no RUNS", x, x.mean(0, 1), 6);
        x.skip(1);
        c.bad("a new print 1 is nobody's", x, x.owner(1), 6);
        c.good("prints", x, x.prints(0), 0);
        nobodyIsLeftBehind();
        c.good("an empty one, too", x, Check.scene(x, ""), 0);
        int[] none = {0, 0, 0, 0, 0, 0, 5, 1, 0, 0, 0, 0, 0, 0};
        for (int what = 0; what < none.length; what++) {
            c.good("told " + what, x, x.told(what), none[what]);
        }
    }

    /** Who was in the scene ahead stands in nobody's way, and what was told of him is not told of the next one. */
    private void nobodyIsLeftBehind() {
        StringBuilder full = new StringBuilder("scene 6 by 1;");
        for (int i = 0; i < 5; i++) {
            full.append("person p").append((char) ('a' + i)).append(" at ").append(i).append(" 0 comes ").append(i % 2);
            full.append(" leaves 500 goes rest;");
        }
        LaterPrints x = c.with(full.toString());
        c.bad("five, and a cell free", x, x.who(5, 0), 6);
        c.good("those who come in 0", x, x.told(8), 21);
        x.skip(1);
        c.good("five, all of them as they are", x, x.again(), 1);
        for (int many = 4; many >= 1; many--) {
            StringBuilder fewer = new StringBuilder("scene 6 by 1;");
            for (int i = 0; i < many; i++) {
                fewer.append("person q").append((char) ('a' + i)).append(" at ").append(i).append(" 0 goes east;");
            }
            c.good("fewer", x, Check.scene(x, fewer.toString()), 0);
            c.bad("nobody from ahead", x, x.who(many, 0), 6);
            c.good("nobody in the way", x, x.placeIn(many - 1, 1), many);
            c.good("comes", x, x.person(many - 1, 2), 0);
            c.bad("never leaves", x, x.person(many - 1, 3), 6);
            c.good("all are there", x, x.told(8), (1 << many) - 1);
        }
    }
}
