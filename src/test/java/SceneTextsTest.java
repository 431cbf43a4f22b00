/** Promises 9, 10, 12: feed, scene and its faults. */
public final class SceneTextsTest {
    private static final Check C = new Check();
    private static final String SIZE = "scene 3 by 2;";
    private static final String ONE = SIZE + "person p at 0 0 goes rest;";

    public static void main(String[] args) {
        feeds();
        sceneRefused();
        texts();
        noTokens();
        cannotStand();
        names();
        numbers();
        toldAlready();
        tooMany();
        faultIsOfTheLatestText();
        aSceneIsInPlaceOfThatAhead();
        C.end();
    }

    private static void feeds() {
        LaterPrints x = new LaterPrints();
        for (int many = 20; many <= 900; many += 20) {
            C.due("feed", x.feed(0x20202020, 0x20202020, 0x20202020, 0x20202020, 0x20202020), many);
        }
        C.due("one more", x.feed(0, 0, 0, 0, 0), -1);
        C.due("no status of its own", x.status(), 0);
        C.bad("901", x, x.scene(901), 1);
        C.good("900 blanks", x, x.scene(900), 0);
        C.due("the tape is empty", x.feed(0, 0, 0, 0, 0), 20);
        C.bad("a byte 0", x, x.scene(20), 9);
        C.due("fault", x.fault(0), 1);
        C.due("its place", x.fault(1), 0);
        C.due("the tape is empty", x.feed(0x62757965, 0x7220613b, 0, 0, 0), 20);
        C.good("buyer a; the highest byte first", x, x.scene(8), 0);
        C.good("a buyer", x, x.told(4), 1);
    }

    private static void sceneRefused() {
        LaterPrints x = C.with(ONE + "sight s empty;");
        C.bad("below 0", x, x.scene(-1), 1);
        C.bad("more than the tape has", x, x.scene(1), 1);
        x.feed(0x62757965, 0x7220613b, 0, 0, 0);
        C.bad("more than the tape has", x, x.scene(21), 1);
        C.bad("more than the tape has", x, x.runs(21), 1);
        C.due("the tape stays", x.feed(0, 0, 0, 0, 0), 40);
        C.due("the fault stays", x.fault(0), 0);
        C.bad("bad text", x, x.scene(9), 9);
        C.due("the tape is empty", x.feed(0, 0, 0, 0, 0), 20);
        C.good("the old scene stays", x, x.told(2), 1);
        C.good("the old scene stays", x, x.told(3), 1);
    }

    private static void fault(String text, int kind, int place) {
        LaterPrints x = new LaterPrints();
        C.bad(text, x, Check.scene(x, text), 9);
        C.due(text + ": fault", x.fault(0), kind);
        C.due(text + ": place", x.fault(1), place);
        C.good("nothing of it", x, x.told(0) + x.told(2) + x.told(3) + x.told(4), 0);
    }

    /** The fault stands where the mark | stands. */
    private static void faultAt(String marked, int kind) {
        int place = marked.indexOf('|');
        fault(marked.substring(0, place) + marked.substring(place + 1), kind, place);
    }

    private static void taken(String text, int sights) {
        LaterPrints x = new LaterPrints();
        C.good(text, x, Check.scene(x, text), sights);
        C.due(text + ": fault", x.fault(0), 0);
        C.due(text + ": place", x.fault(1), -1);
        C.due("others", x.fault(2), -1);
        C.due("others", x.fault(-1), -1);
    }

    private static void texts() {
        taken("", 0);
        taken("  \n ", 0);
        taken("scene 6 by 5;", 0);
        taken("scene 1 by 1;person abcdefgh at 0 0 comes 99 leaves 999 goes east south west north rest rest rest rest;", 0);
        taken("\n scene\n0003 by 0002 ;  ", 0);
        taken("scene3by2;wall0 0;person p at1 0goes rest;", 0);
        taken("buyer a;price 99 rises 20;buyer b coins 0;buyer c coins 9999;", 0);
        taken("price 0 rises 0;" + ONE + "sight q of p at 2 1;sight r empty;", 2);
        taken(ONE + "person q at 1 0 leaves 1 goes rest;sight s of q with p;", 1);
        taken(SIZE + "wall 2 1;" + "person p at 0 0 goes rest;sight s of p at 2 1;", 1);
        taken(SIZE + "person scenes at 0 0 goes rest;person bye at 1 0 goes rest;person es at 2 0 goes rest;", 0);
    }

    private static void noTokens() {
        faultAt("|Scene 3 by 2;", 1);
        faultAt(SIZE + "|,", 1);
        faultAt("scene |12345 by 2;", 1);
        faultAt("scene 3|\tby 2;", 1);
        faultAt("scene 3 by 2;|é", 1);
        faultAt("scene |-1 by 2;", 1);
        faultAt(SIZE + "person |00001", 1);
        faultAt(SIZE + "wall 0|:", 1);
    }

    private static void cannotStand() {
        faultAt("|;", 2);
        faultAt("scene|", 2);
        faultAt("scene 3   |", 2);
        faultAt("scene 3 by 2|", 2);
        faultAt("scene 3 by 2 |by", 2);
        faultAt("scene |by 3;", 2);
        faultAt("scene 3 |of 2;", 2);
        faultAt("|12;", 2);
        faultAt("|scenes 3 by 2;", 2);
        faultAt("|wall 0 0;" + SIZE, 2);
        faultAt("|person p at 0 0 goes rest;", 2);
        faultAt("|sight s empty;", 2);
        faultAt("price 5;".replace(";", "|;"), 2);
        faultAt(SIZE + "wall 1|;", 2);
        faultAt(SIZE + "wall 1 1|<", 2);
        faultAt(SIZE + "person |east at", 2);
        faultAt(SIZE + "person |stop at", 2);
        faultAt(SIZE + "person |any at", 2);
        faultAt(SIZE + "person |12 at", 2);
        faultAt(SIZE + "person |abcdefghi at", 2);
        faultAt(SIZE + "person |abcdefghabcdefghabcdefghabcdefgh at", 2);
        faultAt(SIZE + "person p |of", 2);
        faultAt(SIZE + "person p at 0 0|;", 2);
        faultAt(SIZE + "person p at 0 0 comes 1 |comes 2", 2);
        faultAt(SIZE + "person p at 0 0 leaves 1 |comes 2", 2);
        faultAt(SIZE + "person p at 0 0 leaves 1 |leaves 2", 2);
        faultAt(SIZE + "person p at 0 0 goes|;", 2);
        faultAt(SIZE + "person p at 0 0 goes |up;", 2);
        faultAt(SIZE + "person p at 0 0 goes east |comes 2;", 2);
        faultAt(ONE + "sight s |at", 2);
        faultAt(ONE + "sight s of p |of", 2);
        faultAt(ONE + "sight s of |with", 2);
        faultAt(ONE + "sight s of p with |at", 2);
        faultAt(ONE + "sight s empty|=", 2);
        faultAt("buyer a |5;", 2);
        faultAt("buyer a coins |b;", 2);
        faultAt("buyer |abcdefghi;", 2);
    }

    private static void names() {
        faultAt(ONE + "person |p at", 3);
        faultAt(ONE + "sight |p empty;", 3);
        faultAt(ONE + "buyer |p;", 3);
        faultAt("buyer a;buyer |a;", 3);
        faultAt("buyer p;" + SIZE + "person |p", 3);
        faultAt(ONE + "sight s empty;sight |s empty;", 3);
        faultAt(ONE + "sight s empty;person |s at", 3);
        faultAt(ONE + "sight s of |q at 0 0;", 3);
        faultAt(ONE + "sight s of |s at 0 0;", 3);
        faultAt(ONE + "buyer b;sight s of |b at 0 0;", 3);
        faultAt(ONE + "sight s of p with |q;", 3);
        faultAt(ONE + "sight s of |pp at 0 0;", 3);
        faultAt(SIZE + "person abcdefgh at 0 0 goes rest;sight s of |abcdefg at", 3);
    }

    private static void numbers() {
        faultAt("scene |0 by 2;", 4);
        faultAt("scene |7 by", 4);
        faultAt("scene 3 by |0;", 4);
        faultAt("scene 3 by |6;", 4);
        faultAt("price |100 rises", 4);
        faultAt("price 99 rises |21;", 4);
        faultAt(SIZE + "wall |3 0;", 4);
        faultAt(SIZE + "wall 0 |2;", 4);
        faultAt(SIZE + "person p at |3 0", 4);
        faultAt(SIZE + "person p at 2 |2", 4);
        faultAt(SIZE + "person p at 0 0 comes |100", 4);
        faultAt(SIZE + "person p at 0 0 leaves |0", 4);
        faultAt(SIZE + "person p at 0 0 leaves |1000", 4);
        faultAt(ONE + "sight s of p at |3 0", 4);
        faultAt(ONE + "sight s of p at 0 |2", 4);
        faultAt("scene 1 by 1;wall |1 0;", 4);
    }

    private static void toldAlready() {
        faultAt(SIZE + "|scene", 5);
        faultAt("price 5 rises 1;|price 7", 5);
        faultAt(SIZE + "wall 1 1;wall 1 |1;", 5);
        faultAt(ONE + "wall 0 |0;", 5);
        faultAt(SIZE + "wall 1 1;person p at 1 |1 goes rest;", 5);
        faultAt(ONE + "person q at 0 |0 comes 5 goes rest;", 5);
        faultAt(SIZE + "person p at 0 0 comes 9 goes rest;wall 0 |0;", 5);
        faultAt(ONE + "sight s of p with |p;", 5);
    }

    private static void tooMany() {
        StringBuilder people = new StringBuilder("scene 6 by 5;");
        StringBuilder sights = new StringBuilder(SIZE);
        StringBuilder buyers = new StringBuilder();
        for (int i = 0; i < 5; i++) {
            people.append("person p").append((char) ('a' + i)).append(" at ").append(i).append(" 0 goes rest;");
        }
        for (int i = 0; i < 6; i++) {
            sights.append("sight s").append((char) ('a' + i)).append(" empty;");
        }
        for (int i = 0; i < 4; i++) {
            buyers.append("buyer b").append((char) ('a' + i)).append(";");
        }
        taken(people.toString(), 0);
        taken(sights.toString(), 6);
        taken(buyers.toString(), 0);
        faultAt(people + "|person", 6);
        faultAt(sights + "|sight", 6);
        faultAt(buyers + "|buyer", 6);
        faultAt(SIZE + "person p at 0 0 goes east east east east east east east east |rest;", 6);
        faultAt(SIZE + "person p at 0 0 goes east east east east east east east east |of", 2);
    }

    private static void faultIsOfTheLatestText() {
        LaterPrints x = new LaterPrints();
        Check.scene(x, "scene 3 by 9;");
        C.due("fault", x.fault(0), 4);
        Check.scene(x, SIZE);
        C.due("none", x.fault(0), 0);
        C.due("no place", x.fault(1), -1);
        Check.runs(x, "skip 0;");
        C.due("fault of the runs", x.fault(0), 4);
        C.due("its place", x.fault(1), 5);
        C.bad("status 1", x, x.scene(5), 1);
        C.due("stays", x.fault(0), 4);
    }

    private static void aSceneIsInPlaceOfThatAhead() {
        LaterPrints x = C.with("price 1 rises 2;" + ONE + "wall 2 1;sight s empty;buyer a coins 50;");
        C.good("runs", x, Check.runs(x, "skip 1;"), 1);
        x.buy(0, 3);
        C.good("scene", x, Check.scene(x, "buyer b;"), 0);
        long[] told = {0, 0, 0, 0, 1, 0, 5, 1, 0, 0, 0, 0, 100, 0};
        for (int i = 0; i < told.length; i++) {
            C.good("told " + i, x, x.told(i), told[i]);
        }
        C.bad("no runs", x, x.live(0), 6);
        C.bad("no print", x, x.owner(1), 1);
        x.skip(3);
        C.bad("nobody's", x, x.owner(1), 6);
    }
}
