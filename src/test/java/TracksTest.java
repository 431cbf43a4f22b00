/** Promises 51 to 56: steps from prints. */
public final class TracksTest {
    private static final Check C = new Check();
    private static final String SCENE = "scene 4 by 3;wall 1 1;person a at 0 0 leaves 9 goes east east south;"
        + "person b at 3 2 comes 2 goes rest;";

    public static void main(String[] args) {
        steps();
        stepsAt();
        periods();
        refused();
        numbersThatCannotBe();
        copies();
        between();
        origins();
        C.end();
    }

    private static void fill(LaterPrints x, int sort, long... numbers) {
        x.tray(0, sort, numbers.length);
        for (int i = 0; i < numbers.length; i++) {
            x.write(0, i, numbers[i]);
        }
    }

    private static void steps() {
        LaterPrints x = C.with(SCENE);
        fill(x, 0, 0, 1, 2, 3);
        C.good("east", x, x.steps(0, 4, 1), 1);
        C.good("east east", x, x.steps(0, 4, 2), 1);
        C.good("east east east and any", x, x.steps(0, 4, 4), 5);
        C.good("one cell tells nothing", x, x.steps(0, 1, 1), 5);
        C.good("one cell tells nothing", x, x.steps(0, 1, 4), 625);
        fill(x, 3, 0, -1, 2);
        C.good("not known between", x, x.steps(0, 3, 1), 1);
        C.good("not known between", x, x.steps(0, 3, 2), 1);
        fill(x, 2, 0, 0);
        C.good("rest, west and north lead nowhere", x, x.steps(0, 2, 1), 3);
        fill(x, 1, 1, 1, 1);
        C.good("rest, the wall to the south, north", x, x.steps(0, 3, 1), 3);
        C.good("east and west do not stay", x, x.steps(0, 3, 2), 9);
        fill(x, 0, 0, 3);
        C.good("too far", x, x.steps(0, 2, 1), 0);
        fill(x, 0, 0, -1, -1, -1, -1);
        C.good("nothing known behind", x, x.steps(0, 5, 3), 125);
        x.skip(2);
        fill(x, 0, 22, 23);
        C.good("b at 3 2 does not matter", x, x.steps(0, 2, 1), 1);
    }

    private static void stepsAt() {
        LaterPrints x = C.with(SCENE);
        fill(x, 0, 0, 1, 2, 12);
        C.good("east", x, x.stepsAt(0, 4, 3, 0), 0);
        C.good("east", x, x.stepsAt(0, 4, 3, 1), 0);
        C.good("south", x, x.stepsAt(0, 4, 3, 2), 1);
        C.good("the first of any", x, x.stepsAt(0, 4, 4, 3), 0);
        C.bad("none", x, x.stepsAt(0, 4, 1, 0), 6);
        C.bad("k", x, x.stepsAt(0, 4, 3, 3), 1);
        C.bad("k", x, x.stepsAt(0, 4, 3, -1), 1);
        fill(x, 0, 0, 0, 10);
        C.good("west ahead of north and rest", x, x.stepsAt(0, 3, 2, 0), 2);
        C.good("then south", x, x.stepsAt(0, 3, 2, 1), 1);
    }

    private static void periods() {
        LaterPrints x = C.with(SCENE);
        fill(x, 0, 0, 1, 2, 3);
        C.good("1", x, x.period(0, 4), 1);
        fill(x, 0, 0, 1, 0, 1, 0);
        C.good("2", x, x.period(0, 5), 2);
        fill(x, 0, 0, 1, 2, 12);
        C.good("3", x, x.period(0, 4), 3);
        fill(x, 0, 12, 12, 22, 21);
        C.good("2: the wall to the west", x, x.period(0, 4), 2);
        fill(x, 0, 0, 1, 2, 12, 2, 1);
        C.good("4", x, x.period(0, 5), 4);
        fill(x, 0, 0, 3);
        C.bad("none", x, x.period(0, 2), 6);
    }

    private static void refused() {
        LaterPrints x = C.with(SCENE);
        C.bad("missing", x, x.steps(0, 1, 1), 2);
        C.bad("missing", x, x.stepsAt(0, 1, 1, 0), 2);
        C.bad("missing", x, x.period(0, 1), 2);
        fill(x, 0, 0, 1, 2);
        C.bad("tray", x, x.steps(4, 1, 1), 1);
        C.bad("tray", x, x.steps(-1, 1, 1), 1);
        C.bad("n", x, x.steps(0, 0, 1), 1);
        C.bad("n", x, x.steps(0, 21, 1), 1);
        C.bad("p", x, x.steps(0, 1, 0), 1);
        C.bad("p", x, x.steps(0, 1, 5), 1);
        C.bad("too few", x, x.steps(0, 4, 1), 3);
        C.bad("too few", x, x.stepsAt(0, 20, 1, 0), 3);
        C.bad("too few", x, x.period(0, 4), 3);
        C.bad("tray", x, x.period(4, 4), 1);
        C.bad("n", x, x.period(0, 0), 1);
        C.bad("n", x, x.period(0, 21), 1);
        C.bad("1 ahead of 2", x, x.steps(1, 21, 1), 1);
        C.bad("2 ahead of 3", x, x.steps(1, 20, 1), 2);
        x.write(0, 0, -1);
        C.bad("3 ahead of 5", x, x.steps(0, 4, 1), 3);
    }

    private static void numbersThatCannotBe() {
        LaterPrints x = C.with(SCENE);
        long[][] rows = {{-1, 0}, {4, 4}, {0, 4}, {30, 20}, {0, 30}, {11, 1}, {1, 11}, {-2, 0}, {0, -2},
            {0, 1, Long.MAX_VALUE}, {0, 1, 1L << 32}, {0, 99}, {0, Long.MIN_VALUE}};
        for (long[] row : rows) {
            fill(x, 3, row);
            C.bad("steps", x, x.steps(0, row.length, 1), 5);
            C.bad("stepsAt", x, x.stepsAt(0, row.length, 1, 0), 5);
            C.bad("period", x, x.period(0, row.length), 5);
        }
        fill(x, 3, 0, 1, 99);
        C.good("only the first n matter", x, x.steps(0, 2, 1), 1);
        LaterPrints y = new LaterPrints();
        fill(y, 0, 0, 0);
        C.bad("no cells at all", y, y.steps(0, 1, 1), 5);
    }

    private static void copies() {
        LaterPrints x = C.with(SCENE);
        C.bad("missing", x, x.copyWay(0, 1, 4), 2);
        x.tray(1, 0, 12);
        x.write(1, 11, 77);
        C.bad("too few", x, x.copyWay(0, 1, 13), 3);
        C.bad("no such person", x, x.copyWay(2, 1, 4), 1);
        C.bad("no such tray", x, x.copyWay(0, 4, 4), 1);
        C.bad("n", x, x.copyWay(0, 1, 0), 1);
        C.bad("n", x, x.copyWay(0, 1, 21), 1);
        C.good("nothing there", x, x.read(1, 1), 0);
        C.good("a", x, x.copyWay(0, 1, 11), 11);
        // b stands at 3 2 from second 2 on, so that a stops above him.
        int[] way = {0, 1, 2, 12, 13, 13, 13, 13, 13, -1, -1, 77};
        for (int i = 0; i < way.length; i++) {
            C.good("place " + i, x, x.read(1, i), way[i]);
        }
        C.good("b", x, x.copyWay(1, 1, 4), 4);
        int[] other = {-1, -1, 23, 23, 13};
        for (int i = 0; i < other.length; i++) {
            C.good("place " + i, x, x.read(1, i), other[i]);
        }
        C.good("second", x, x.told(5), 0);
    }

    private static void between() {
        LaterPrints x = C.with(SCENE);
        C.good("no second", x, x.between(0, 0, 0, 0, 0), 1);
        C.good("no second", x, x.between(0, 0, 1, 0, 0), 0);
        C.good("one", x, x.between(0, 0, 1, 0, 1), 1);
        C.good("stays by three", x, x.between(0, 0, 0, 0, 1), 3);
        C.good("two", x, x.between(0, 0, 2, 0, 2), 1);
        C.good("round the wall", x, x.between(0, 1, 2, 1, 4), 2);
        C.bad("a wall", x, x.between(1, 1, 0, 0, 1), 7);
        C.bad("a wall", x, x.between(0, 0, 1, 1, 1), 7);
        C.bad("outside", x, x.between(4, 0, 1, 1, 1), 1);
        C.bad("outside", x, x.between(1, 1, 0, 3, 1), 1);
        C.bad("n", x, x.between(0, 0, 0, 0, 13), 1);
        C.bad("n", x, x.between(0, 0, 0, 0, -1), 1);
        long sum = 0;
        for (int c = 0; c < 4; c++) {
            for (int r = 0; r < 3; r++) {
                if (x.wall(c, r) == 0) {
                    sum += x.between(2, 1, c, r, 12);
                }
            }
        }
        C.due("five steps, twelve times", sum, 244140625);
        LaterPrints y = C.with("scene 1 by 1;");
        C.good("all of them", y, y.between(0, 0, 0, 0, 12), 244140625);
    }

    private static void origins() {
        LaterPrints x = C.with(SCENE);
        C.good("rest", x, x.origin(2, 1, 4), 1 << 6);
        C.good("east to 2 0", x, x.origin(2, 0, 0), 1 << 1);
        C.good("east to 3 0, from there too", x, x.origin(3, 0, 0), 1 << 2 | 1 << 3);
        C.good("east to 0 1: the wall", x, x.origin(0, 1, 0), 1 << 4);
        C.good("east to 2 1: from the wall nobody comes", x, x.origin(2, 1, 0), 0);
        C.good("south to 1 0: the wall", x, x.origin(1, 0, 1), 1 << 1);
        C.good("south to 3 2", x, x.origin(3, 2, 1), 1 << 7 | 1 << 11);
        C.good("west to 0 0", x, x.origin(0, 0, 2), 1 | 1 << 1);
        C.good("north to 1 2: the wall", x, x.origin(1, 2, 3), 1 << 9);
        C.good("others do not matter", x, x.origin(1, 0, 0), 1);
        C.bad("a wall", x, x.origin(1, 1, 0), 7);
        C.bad("outside", x, x.origin(4, 0, 0), 1);
        C.bad("outside", x, x.origin(0, -1, 0), 1);
        C.bad("step", x, x.origin(0, 0, 5), 1);
        C.bad("step", x, x.origin(1, 1, -1), 1);
        LaterPrints y = C.with("scene 6 by 5;");
        C.good("the last cell", y, y.origin(5, 4, 1), 1 << 23 | 1 << 29);
    }
}
