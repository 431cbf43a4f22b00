/** Promises 5 to 8: tray, write, read, pour. */
public final class TraysTest {
    private static final Check C = new Check();

    public static void main(String[] args) {
        trays();
        cuts();
        places();
        pours();
        pourRefused();
        C.end();
    }

    private static void trays() {
        LaterPrints x = new LaterPrints();
        C.bad("tray -1", x, x.tray(-1, 0, 1), 1);
        C.bad("tray 4", x, x.tray(4, 0, 1), 1);
        C.bad("sort -1", x, x.tray(0, -1, 1), 1);
        C.bad("sort 4", x, x.tray(0, 4, 1), 1);
        C.bad("many -1", x, x.tray(0, 0, -1), 1);
        C.bad("many 61", x, x.tray(0, 0, 61), 1);
        C.bad("still missing", x, x.read(0, 0), 2);
        C.good("60", x, x.tray(0, 0, 60));
        C.good("the last", x, x.read(0, 59), 0);
        C.bad("behind", x, x.read(0, 60), 3);
        C.good("write", x, x.write(0, 59, 7));
        C.bad("a refused one", x, x.tray(0, 5, 5), 1);
        C.good("stays", x, x.read(0, 59), 7);
        C.good("anew", x, x.tray(0, 3, 60));
        C.good("0s again", x, x.read(0, 59), 0);
        C.good("of none", x, x.tray(3, 2, 0));
        C.bad("none there", x, x.read(3, 0), 3);
    }

    private static void cuts() {
        LaterPrints x = new LaterPrints();
        long v = 0x123456789ABCDEF0L;
        long[] cut = {(byte) v, (short) v, (int) v, v};
        for (int sort = 0; sort < 4; sort++) {
            C.good("tray", x, x.tray(sort, sort, 3));
            C.good("write", x, x.write(sort, 1, v));
            C.good("sort " + sort, x, x.read(sort, 1), cut[sort]);
            C.good("its neighbour", x, x.read(sort, 0), 0);
            C.good("write -1", x, x.write(sort, 2, -1));
            C.good("-1, not NONE", x, x.read(sort, 2), -1);
        }
        C.good("write", x, x.write(0, 0, 128));
        C.good("128 in 8 bits", x, x.read(0, 0), -128);
    }

    private static void places() {
        LaterPrints x = new LaterPrints();
        x.tray(1, 3, 2);
        C.bad("no tray", x, x.write(4, 0, 1), 1);
        C.bad("no tray", x, x.read(-1, 0), 1);
        C.bad("missing", x, x.write(0, 0, 1), 2);
        C.bad("missing, whatever the place", x, x.read(0, -1), 2);
        C.bad("place 2", x, x.write(1, 2, 1), 3);
        C.bad("place -1", x, x.write(1, -1, 1), 3);
        C.bad("place -1", x, x.read(1, -1), 3);
        C.bad("a huge place", x, x.read(1, Integer.MAX_VALUE), 3);
        C.good("nothing written", x, x.read(1, 0), 0);
        C.good("nothing written", x, x.read(1, 1), 0);
    }

    private static LaterPrints filled() {
        LaterPrints x = new LaterPrints();
        x.tray(0, 1, 5);
        x.tray(1, 1, 4);
        for (int i = 0; i < 5; i++) {
            x.write(0, i, i + 1);
        }
        return x;
    }

    private static void row(LaterPrints x, int tray, long... want) {
        for (int i = 0; i < want.length; i++) {
            C.good("tray " + tray + " place " + i, x, x.read(tray, i), want[i]);
        }
    }

    private static void pours() {
        LaterPrints x = filled();
        C.good("pour", x, x.pour(0, 1, 1, 0, 3));
        row(x, 1, 2, 3, 4, 0);
        row(x, 0, 1, 2, 3, 4, 5);
        C.good("into itself, forward", x, x.pour(0, 0, 0, 1, 4));
        row(x, 0, 1, 1, 2, 3, 4);
        C.good("into itself, backward", x, x.pour(0, 1, 0, 0, 4));
        row(x, 0, 1, 2, 3, 4, 4);
        C.good("none, at the very end", x, x.pour(0, 5, 1, 4, 0));
        C.good("all", x, x.pour(1, 0, 0, 1, 4));
        row(x, 0, 1, 2, 3, 4, 0);
    }

    private static void pourRefused() {
        LaterPrints x = filled();
        x.tray(2, 2, 5);
        C.bad("from", x, x.pour(4, 0, 1, 0, 1), 1);
        C.bad("to", x, x.pour(0, 0, -1, 0, 1), 1);
        C.bad("place", x, x.pour(0, -1, 1, 0, 1), 1);
        C.bad("at", x, x.pour(0, 0, 1, -1, 1), 1);
        C.bad("many", x, x.pour(0, 0, 1, 0, -1), 1);
        C.bad("1 ahead of 2", x, x.pour(3, -1, 1, 0, 1), 1);
        C.bad("missing from", x, x.pour(3, 0, 1, 0, 1), 2);
        C.bad("missing to", x, x.pour(1, 0, 3, 0, 99), 2);
        C.bad("unlike sorts ahead of places", x, x.pour(0, 99, 2, 99, 99), 8);
        C.bad("too few there", x, x.pour(0, 3, 1, 0, 3), 3);
        C.bad("too few here", x, x.pour(0, 0, 1, 2, 3), 3);
        C.bad("huge", x, x.pour(0, Integer.MAX_VALUE, 1, 0, Integer.MAX_VALUE), 3);
        C.bad("huge", x, x.pour(0, 0, 1, Integer.MAX_VALUE, Integer.MAX_VALUE), 3);
        C.bad("none, beyond the end", x, x.pour(0, 6, 1, 0, 0), 3);
        row(x, 1, 0, 0, 0, 0);
        row(x, 2, 0, 0, 0, 0, 0);
    }
}
