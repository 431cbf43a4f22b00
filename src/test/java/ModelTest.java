import java.util.ArrayList;
import java.util.HashSet;
import java.util.List;
import java.util.Random;

/** Scenes and RUNS by chance: the program answers as the slow model does (most promises at once). */
public final class ModelTest {
    private static final Check C = new Check();

    public static void main(String[] args) {
        Random r = new Random(20261118);
        for (int round = 0; round < 400; round++) {
            one(r);
        }
        C.end();
    }

    private static void one(Random r) {
        StringBuilder text = new StringBuilder();
        Model m = Model.random(r, text);
        if (text.length() > 900) {
            return;
        }
        LaterPrints x = new LaterPrints();
        C.due(text.toString(), Check.scene(x, text.toString()), m.sights.size());
        compareAll(x, m);
        List<Model> marks = new ArrayList<>();
        for (int i = 0; i < 12; i++) {
            m = change(x, m, marks, r);
            compareAll(x, m);
        }
        ahead(x, m);
        bargains(x, m, r);
        alone(x, m, r);
        live(x, m, r);
    }

    /** Asked with NONE due where there is nothing. */
    private static void found(String what, LaterPrints x, long got, long want) {
        C.due(what, got, want);
        C.due(what + ", status", x.status(), want == -1 ? 6 : 0);
    }

    private static void compareAll(LaterPrints x, Model m) {
        int there = 0;
        int gone = 0;
        for (int p = 0; p < m.guys.size(); p++) {
            there += m.guys.get(p).there ? 1 << p : 0;
            gone += m.guys.get(p).gone ? 1 << p : 0;
            found("column", x, x.person(p, 0), m.guys.get(p).there ? m.guys.get(p).column : -1);
            found("row", x, x.person(p, 1), m.guys.get(p).there ? m.guys.get(p).row : -1);
            found("leaves", x, x.person(p, 3), m.guys.get(p).leaves);
            for (int k = 0; k < m.guys.get(p).steps.size(); k++) {
                found("step", x, x.stepOf(p, k), m.guys.get(p).steps.get(k));
            }
        }
        int[] told = {m.wide, m.deep, m.guys.size(), m.sights.size(), m.buyers.size(), m.second, m.priceOf(m.second + 1),
            m.rises, there, gone, m.shown(), m.walls.size(), m.allCoins(), m.owners.size()};
        for (int i = 0; i < told.length; i++) {
            C.good("told " + i, x, x.told(i), told[i]);
        }
        for (int c = 0; c < m.wide; c++) {
            for (int r = 0; r < m.deep; r++) {
                found("who", x, x.who(c, r), m.at(c, r));
                C.good("wall", x, x.wall(c, r), m.walls.contains(10 * r + c) ? 1 : 0);
            }
        }
        for (int b = 0; b < m.buyers.size(); b++) {
            C.good("coins", x, x.coins(b), m.coins.get(b));
            int buyer = b;
            C.good("prints", x, x.prints(b), m.owners.values().stream().filter(o -> o == buyer).count());
        }
        for (int print = 1; print <= m.second; print++) {
            found("owner", x, x.owner(print), m.owners.getOrDefault(print, -1));
        }
    }

    private static Model change(LaterPrints x, Model m, List<Model> marks, Random r) {
        int buyer = m.buyers.isEmpty() ? -1 : r.nextInt(m.buyers.size());
        int guy = m.guys.isEmpty() ? -1 : r.nextInt(m.guys.size());
        int column = r.nextInt(m.wide);
        int row = r.nextInt(m.deep);
        switch (r.nextInt(11)) {
            case 0 -> skip(x, m, 1 + r.nextInt(4));
            case 1 -> buy(x, m, buyer, 1 + r.nextInt(9));
            case 2 -> give(x, m, buyer, 1 + r.nextInt(m.second + 1));
            case 3 -> back(x, m, buyer, 1 + r.nextInt(m.second + 1));
            case 4 -> {
                m.first = r.nextInt(20);
                m.rises = r.nextInt(3);
                C.good("price", x, x.price(m.first, m.rises));
            }
            case 5 -> build(x, m, column, row, r.nextBoolean());
            case 6 -> place(x, m, guy, column, row);
            case 7 -> teach(x, m, guy, r.nextInt(5));
            case 8 -> {
                C.due("mark", x.mark(), marks.size() < 3 ? marks.size() + 1 : -1);
                C.due("mark", x.status(), marks.size() < 3 ? 0 : 4);
                if (marks.size() < 3) {
                    marks.add(m.copy());
                }
            }
            case 9 -> {
                found("undo", x, x.undo(), marks.size() - 1);
                return marks.isEmpty() ? m : marks.remove(marks.size() - 1);
            }
            default -> skip(x, m, r.nextInt(20) == 0 ? 99 : 1);
        }
        return m;
    }

    private static void skip(LaterPrints x, Model m, int many) {
        for (int i = 0; i < many; i++) {
            m.makeFor(-1);
        }
        C.good("skip", x, x.skip(many), m.second);
    }

    private static void buy(LaterPrints x, Model m, int buyer, int many) {
        if (buyer < 0) {
            C.bad("no buyer", x, x.buy(0, many), 1);
            return;
        }
        int bought = 0;
        while (bought < many && m.coins.get(buyer) >= m.priceOf(m.second + 1)) {
            m.makeFor(buyer);
            bought++;
        }
        C.due("buy", x.buy(buyer, many), bought == 0 ? -1 : bought);
        C.due("buy", x.status(), bought == 0 ? 7 : 0);
    }

    private static void give(LaterPrints x, Model m, int buyer, int print) {
        int from = m.owners.getOrDefault(print, -1);
        boolean isNone = print > m.second || buyer < 0;
        boolean can = !isNone && from >= 0 && from != buyer;
        C.due("give", x.give(print, buyer), can ? from : -1);
        C.due("give", x.status(), isNone ? 1 : can ? 0 : 7);
        if (can) {
            m.owners.put(print, buyer);
        }
    }

    private static void back(LaterPrints x, Model m, int buyer, int print) {
        boolean isNone = print > m.second || buyer < 0;
        boolean can = !isNone && m.owners.getOrDefault(print, -1) == buyer;
        if (can) {
            m.owners.remove(print);
            m.coins.set(buyer, Math.min(9999, m.coins.get(buyer) + m.priceOf(print) / 2));
        }
        C.due("back", x.back(buyer, print), can ? m.coins.get(buyer) : -1);
        C.due("back", x.status(), isNone ? 1 : can ? 0 : 7);
    }

    private static void build(LaterPrints x, Model m, int column, int row, boolean is) {
        boolean can = m.walls.contains(10 * row + column) != is && m.at(column, row) < 0;
        C.due("build", x.build(column, row, is), can);
        C.due("build", x.status(), can ? 0 : 7);
        if (can && is) {
            m.walls.add(10 * row + column);
        } else if (can) {
            m.walls.remove(10 * row + column);
        }
    }

    private static void place(LaterPrints x, Model m, int guy, int column, int row) {
        boolean can = guy >= 0 && m.guys.get(guy).there && m.open(column, row) && m.at(column, row) < 0;
        C.due("place", x.place(guy, column, row), can);
        C.due("place", x.status(), guy < 0 ? 1 : can ? 0 : 7);
        if (can) {
            m.guys.get(guy).column = column;
            m.guys.get(guy).row = row;
        }
    }

    private static void teach(LaterPrints x, Model m, int guy, int step) {
        C.due("teach", x.teach(guy, 0, step), guy >= 0);
        if (guy >= 0) {
            m.guys.get(guy).steps.set(0, step);
        }
    }

    private static void ahead(LaterPrints x, Model m) {
        List<Model> film = m.film(200);
        for (int k = 0; k <= 200; k += k < 20 ? 1 : 36) {
            C.good("showsIn", x, x.showsIn(k), film.get(k).shown());
            C.good("costOf", x, x.costOf(k), m.costOf(k));
            for (int p = 0; p < m.guys.size(); p++) {
                found("placeIn", x, x.placeIn(p, k), film.get(k).place(p));
            }
            found("whoIn", x, x.whoIn(0, 0, k), film.get(k).at(0, 0));
        }
        for (int s = 0; s < m.sights.size(); s++) {
            int first = -1;
            int often = 0;
            int longest = 0;
            int run = 0;
            for (int k = 1; k <= 200; k++) {
                boolean is = film.get(k).shows(s);
                first = is && first < 0 ? k : first;
                often += is ? 1 : 0;
                run = is ? run + 1 : 0;
                longest = Math.max(longest, run);
            }
            found("first", x, x.first(s), first);
            found("cost", x, x.cost(s), first < 0 ? -1 : m.costOf(first));
            C.good("often", x, x.often(s, 200), often);
            C.good("longest", x, x.longest(s, 200), longest);
        }
        persons(x, m, film);
    }

    private static void persons(LaterPrints x, Model m, List<Model> film) {
        int again = -1;
        for (int k = 200; k >= 1; k--) {
            boolean same = true;
            for (int p = 0; p < m.guys.size(); p++) {
                same &= film.get(k).place(p) == m.place(p) && film.get(k).guys.get(p).gone == m.guys.get(p).gone;
            }
            again = same ? k : again;
        }
        found("again", x, x.again(), again);
        for (int p = 0; p < m.guys.size(); p++) {
            int last = 0;
            int stays = 0;
            for (int k = 1; k <= 200; k++) {
                last = film.get(k).guys.get(p).there ? k : last;
                stays += film.get(k).place(p) >= 0 && film.get(k).place(p) == film.get(k - 1).place(p) ? 1 : 0;
            }
            found("gone", x, x.gone(p), last == 200 ? -1 : last + 1);
            C.good("stays", x, x.stays(p, 200), stays);
            C.good("tray", x, x.tray(0, 0, 20));
            C.good("copyWay", x, x.copyWay(p, 0, 20), 20);
            for (int k = 0; k < 20; k++) {
                C.good("way", x, x.read(0, k), film.get(k).place(p));
            }
        }
    }

    private static void bargains(LaterPrints x, Model m, Random r) {
        List<Model> film = m.film(200);
        int n = 1 + r.nextInt(8);
        int want = r.nextInt(1 << m.sights.size());
        int[] best = m.bestCover(want, n);
        found("cover", x, x.cover(want, n), best == null ? -1 : best[0]);
        found("coverSet", x, x.coverSet(want, n), best == null ? -1 : best[2]);
        for (int who = 0; who < 2; who++) {
            HashSet<Integer> seen = new HashSet<>();
            for (int k = 1; k <= 7; k++) {
                for (int s = 0; s < m.sights.size(); s++) {
                    if ((k - 1) % 2 == who && film.get(k).shows(s)) {
                        seen.add(s);
                    }
                }
            }
            C.good("share", x, x.share(7, who), seen.size());
        }
        for (int b = 0; b < m.buyers.size(); b++) {
            int many = 0;
            int seen = 0;
            while (many < 200 && m.costOf(many + 1) <= m.coins.get(b)) {
                many++;
                seen |= film.get(many).shown();
            }
            C.good("afford", x, x.afford(b), many);
            C.good("sees", x, x.sees(b), seen);
        }
    }

    private static void alone(LaterPrints x, Model m, Random r) {
        int c = r.nextInt(m.wide);
        int w = r.nextInt(m.deep);
        int d = r.nextInt(m.wide);
        int v = r.nextInt(m.deep);
        int n = r.nextInt(5);
        boolean open = m.open(c, w) && m.open(d, v);
        C.due("between", x.between(c, w, d, v, n), open ? m.ways(10 * w + c, 10 * v + d, n) : -1);
        C.due("between", x.status(), open ? 0 : 7);
        for (int step = 0; step < 5; step++) {
            int set = 0;
            for (int i = 0; i < m.wide * m.deep; i++) {
                int cell = 10 * (i / m.wide) + i % m.wide;
                set |= m.open(cell % 10, cell / 10) && m.move(cell, step) == 10 * w + c ? 1 << i : 0;
            }
            C.due("origin", x.origin(c, w, step), m.open(c, w) ? set : -1);
        }
        if (m.open(c, w)) {
            track(x, m, 10 * w + c, r);
        }
    }

    private static void track(LaterPrints x, Model m, int start, Random r) {
        int n = 1 + r.nextInt(9);
        int[] cells = new int[n];
        int p = 1 + r.nextInt(5);
        int[] row = r.ints(p, 0, 5).toArray();
        cells[0] = start;
        for (int i = 1; i < n; i++) {
            cells[i] = m.move(cells[i - 1], row[(i - 1) % p]);
        }
        x.tray(1, r.nextInt(4), n);
        for (int i = 0; i < n; i++) {
            cells[i] = i > 0 && r.nextInt(3) == 0 ? -1 : cells[i];
            x.write(1, i, cells[i]);
        }
        int period = -1;
        for (int q = 4; q >= 1; q--) {
            List<int[]> rows = m.rowsAlong(cells, q);
            C.good("steps", x, x.steps(1, n, q), rows.size());
            for (int k = 0; k < q; k++) {
                found("stepsAt", x, x.stepsAt(1, n, q, k), rows.isEmpty() ? -1 : rows.get(0)[k]);
            }
            period = rows.isEmpty() ? period : q;
        }
        found("period", x, x.period(1, n), period);
    }

    private static void live(LaterPrints x, Model m, Random r) {
        StringBuilder text = new StringBuilder();
        List<Model.Act> acts = m.randomActs(r, 8, 0, text);
        if (text.length() > 300 || Model.count(acts) > 30) {
            return;
        }
        C.good(text.toString(), x, Check.runs(x, text.toString()), Model.count(acts));
        int from = r.nextInt(9981);
        int many = 1 + r.nextInt(4);
        long sum = 0;
        for (int i = 0; i < many; i++) {
            Model trial = m.copy();
            trial.live(acts, from + i);
            sum += trial.allCoins();
        }
        C.good("mean", x, x.mean(from, many));
        C.due("mean", x.top() * many, sum * x.bottom());
        for (int i = 0; i < 3; i++) {
            m.live(acts, from + i);
            C.good("live " + text, x, x.live(from + i), m.acts);
            int[] lived = {m.missed, m.made, m.bought, m.paid, m.left ? 1 : 0};
            for (int k = 0; k < 5; k++) {
                C.good("lived " + k + " of " + text, x, x.lived(k), lived[k]);
            }
            compareAll(x, m);
        }
    }
}
