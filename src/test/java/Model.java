import java.util.ArrayList;
import java.util.Arrays;
import java.util.HashMap;
import java.util.HashSet;
import java.util.List;
import java.util.Map;
import java.util.Random;
import java.util.Set;

/** A second, slow writing of the document, by maps and recursion, to compare the program with. */
final class Model {
    static final String[] STEPS = {"east", "south", "west", "north", "rest"};
    private static final int[] COLUMNS = {1, 0, -1, 0, 0};
    private static final int[] ROWS = {0, 1, 0, -1, 0};

    /** Somebody of the scene; column and row count only while he is there. */
    static final class Guy {
        String name;
        int homeColumn;
        int homeRow;
        int comes;
        int leaves;
        List<Integer> steps = new ArrayList<>();
        boolean there;
        boolean gone;
        int column;
        int row;

        Guy copy() {
            Guy g = new Guy();
            g.name = name;
            g.homeColumn = homeColumn;
            g.homeRow = homeRow;
            g.comes = comes;
            g.leaves = leaves;
            g.steps = new ArrayList<>(steps);
            g.there = there;
            g.gone = gone;
            g.column = column;
            g.row = row;
            return g;
        }
    }

    record Sight(String name, int kind, int one, int column, int row, int other) { }

    record Act(String word, int one, int two, String compare, List<Act> body) { }

    int wide;
    int deep;
    int first = 5;
    int rises = 1;
    int second;
    Set<Integer> walls = new HashSet<>();
    List<Guy> guys = new ArrayList<>();
    List<Sight> sights = new ArrayList<>();
    List<String> buyers = new ArrayList<>();
    List<Integer> coins = new ArrayList<>();
    Map<Integer, Integer> owners = new HashMap<>();
    /** null where there are none. */
    List<Act> runs;

    Model copy() {
        Model m = new Model();
        m.wide = wide;
        m.deep = deep;
        m.first = first;
        m.rises = rises;
        m.second = second;
        m.walls = new HashSet<>(walls);
        for (Guy g : guys) {
            m.guys.add(g.copy());
        }
        m.sights = new ArrayList<>(sights);
        m.buyers = new ArrayList<>(buyers);
        m.coins = new ArrayList<>(coins);
        m.owners = new HashMap<>(owners);
        m.runs = runs;
        return m;
    }

    // ---- what goes by

    boolean open(int column, int row) {
        return column >= 0 && column < wide && row >= 0 && row < deep && !walls.contains(10 * row + column);
    }

    int at(int column, int row) {
        for (int i = 0; i < guys.size(); i++) {
            Guy g = guys.get(i);
            if (g.there && g.column == column && g.row == row) {
                return i;
            }
        }
        return -1;
    }

    void goBy() {
        int s = second;
        for (Guy g : guys) {
            if (g.gone) {
                continue;
            }
            if (!g.there && g.comes <= s + 1) {
                if (g.leaves >= 0 && g.leaves <= s + 1) {
                    g.gone = true;
                } else if (open(g.homeColumn, g.homeRow) && at(g.homeColumn, g.homeRow) < 0) {
                    g.there = true;
                    g.column = g.homeColumn;
                    g.row = g.homeRow;
                }
            } else if (g.there && g.leaves >= 0 && g.leaves <= s + 1) {
                g.there = false;
                g.gone = true;
            } else if (g.there) {
                int step = g.steps.get(s % g.steps.size());
                int column = g.column + COLUMNS[step];
                int row = g.row + ROWS[step];
                if (open(column, row) && at(column, row) < 0) {
                    g.column = column;
                    g.row = row;
                }
            }
        }
        second++;
    }

    Model in(int seconds) {
        Model m = copy();
        for (int i = 0; i < seconds; i++) {
            m.goBy();
        }
        return m;
    }

    /** This second and the next n, one behind the other. */
    List<Model> film(int n) {
        List<Model> film = new ArrayList<>();
        film.add(copy());
        for (int k = 1; k <= n; k++) {
            film.add(film.get(k - 1).in(1));
        }
        return film;
    }

    int place(int guy) {
        Guy g = guys.get(guy);
        return g.there ? 10 * g.row + g.column : -1;
    }

    boolean shows(int sight) {
        Sight s = sights.get(sight);
        if (s.kind() == 2) {
            return guys.stream().noneMatch(g -> g.there);
        }
        Guy one = guys.get(s.one());
        if (s.kind() == 0) {
            return one.there && one.column == s.column() && one.row == s.row();
        }
        Guy other = guys.get(s.other());
        if (!one.there || !other.there) {
            return false;
        }
        return one.column == other.column && Math.abs(one.row - other.row) == 1
            || one.row == other.row && Math.abs(one.column - other.column) == 1;
    }

    int shown() {
        int set = 0;
        for (int i = 0; i < sights.size(); i++) {
            set += shows(i) ? 1 << i : 0;
        }
        return set;
    }

    int priceOf(int print) {
        int price = first;
        for (int k = 1; k < print; k++) {
            price += rises;
        }
        return price;
    }

    int costOf(int many) {
        int sum = 0;
        for (int k = 1; k <= many; k++) {
            sum += priceOf(second + k);
        }
        return sum;
    }

    void makeFor(int buyer) {
        int print = second + 1;
        if (buyer >= 0) {
            coins.set(buyer, coins.get(buyer) - priceOf(print));
            if (print <= 120) {
                owners.put(print, buyer);
            }
        }
        goBy();
    }

    int allCoins() {
        int sum = 0;
        for (int c : coins) {
            sum += c;
        }
        return sum;
    }

    /** Cost, how many and the set of COVER, found by trying all sets; null if none shows all. */
    int[] bestCover(int want, int n) {
        int[] shown = film(n).stream().mapToInt(Model::shown).toArray();
        int[] best = null;
        for (int set = 0; set < 1 << n; set++) {
            int seen = 0;
            int cost = 0;
            for (int k = 1; k <= n; k++) {
                if ((set & 1 << k - 1) != 0) {
                    seen |= shown[k];
                    cost += priceOf(second + k);
                }
            }
            int[] now = {cost, Integer.bitCount(set), set};
            if ((seen & want) == want && (best == null || Arrays.compare(now, best) < 0)) {
                best = now;
            }
        }
        return best;
    }

    // ---- somebody alone; a cell is 10 times its row and its column

    int move(int cell, int step) {
        int column = cell % 10 + COLUMNS[step];
        int row = cell / 10 + ROWS[step];
        return open(column, row) ? 10 * row + column : cell;
    }

    long ways(int cell, int to, int n) {
        return ways(cell, to, n, new HashMap<>());
    }

    private long ways(int cell, int to, int n, Map<Integer, Long> known) {
        if (n == 0) {
            return cell == to ? 1 : 0;
        }
        // Without what is known already, twelve seconds would be 5 to the 12th ways to go one by one.
        Long before = known.get(100 * n + cell);
        if (before != null) {
            return before;
        }
        long sum = 0;
        for (int step = 0; step < 5; step++) {
            sum += ways(move(cell, step), to, n - 1, known);
        }
        known.put(100 * n + cell, sum);
        return sum;
    }

    /** All rows of p steps by which these cells, -1 where not known, can have been gone along, in their order. */
    List<int[]> rowsAlong(int[] cells, int p) {
        List<int[]> rows = new ArrayList<>();
        addRows(cells, new int[p], 0, rows);
        return rows;
    }

    private void addRows(int[] cells, int[] row, int k, List<int[]> rows) {
        if (k < row.length) {
            for (int step = 0; step < 5; step++) {
                row[k] = step;
                addRows(cells, row, k + 1, rows);
            }
            return;
        }
        int cell = cells[0];
        for (int i = 1; i < cells.length; i++) {
            cell = move(cell, row[(i - 1) % row.length]);
            if (cells[i] >= 0 && cells[i] != cell) {
                return;
            }
        }
        rows.add(row.clone());
    }

    // ---- RUNS, as trees

    int acts;
    int missed;
    int made;
    int bought;
    int paid;
    boolean left;
    private boolean stopped;
    private long draw;

    void live(List<Act> all, int seed) {
        acts = 0;
        missed = 0;
        made = 0;
        bought = 0;
        paid = 0;
        left = false;
        stopped = false;
        draw = seed;
        doAll(all);
    }

    private void doAll(List<Act> all) {
        for (Act a : all) {
            if (stopped) {
                return;
            }
            if (acts == 300) {
                left = true;
                stopped = true;
                return;
            }
            acts++;
            doOne(a);
        }
    }

    private void doOne(Act a) {
        switch (a.word()) {
            case "buy" -> buy(a.one(), a.two());
            case "skip" -> skip(a.one());
            case "give" -> give(a.one(), a.two());
            case "any" -> any();
            case "stop" -> stopped = true;
            case "loop" -> {
                for (int i = 0; i < a.one() && !stopped; i++) {
                    doAll(a.body());
                }
            }
            case "shows" -> doIf(shows(a.one()), a);
            case "there" -> doIf(guys.get(a.one()).there, a);
            default -> {
                int has = coins.get(a.one());
                doIf(a.compare().equals("<") && has < a.two() || a.compare().equals(">") && has > a.two()
                    || a.compare().equals("=") && has == a.two(), a);
            }
        }
    }

    private void doIf(boolean is, Act a) {
        if (is) {
            doAll(a.body());
        }
    }

    private void buy(int buyer, int many) {
        if (second + many > 999 || costOf(many) > coins.get(buyer)) {
            missed++;
            return;
        }
        for (int i = 0; i < many; i++) {
            paid += priceOf(second + 1);
            made++;
            bought++;
            makeFor(buyer);
        }
    }

    private void skip(int many) {
        if (second + many > 999) {
            missed++;
            return;
        }
        for (int i = 0; i < many; i++) {
            made++;
            makeFor(-1);
        }
    }

    private void give(int from, int to) {
        int latest = -1;
        for (Map.Entry<Integer, Integer> e : owners.entrySet()) {
            if (e.getValue() == from) {
                latest = Math.max(latest, e.getKey());
            }
        }
        if (latest < 0 || from == to) {
            missed++;
        } else {
            owners.put(latest, to);
        }
    }

    private void any() {
        if (buyers.isEmpty()) {
            missed++;
            return;
        }
        draw = (draw * 3049 + 11273) % 65536;
        buy((int) (draw / 8 % buyers.size()), 1);
    }

    // ---- scenes and RUNS by chance

    /** A scene by chance; its text comes to text. */
    static Model random(Random r, StringBuilder text) {
        Model m = new Model();
        m.wide = 1 + r.nextInt(6);
        m.deep = 1 + r.nextInt(5);
        if (r.nextBoolean()) {
            m.first = r.nextInt(4) == 0 ? 0 : r.nextInt(12);
            m.rises = r.nextInt(3);
            text.append("price ").append(m.first).append(" rises ").append(m.rises).append(" ;\n");
        }
        text.append("scene ").append(m.wide).append(" by ").append(m.deep).append(";");
        Set<Integer> taken = new HashSet<>();
        for (int i = r.nextInt(5); i > 0; i--) {
            int column = r.nextInt(m.wide);
            int row = r.nextInt(m.deep);
            if (taken.add(10 * row + column)) {
                m.walls.add(10 * row + column);
                text.append("wall ").append(column).append(' ').append(row).append(";");
            }
        }
        for (int i = r.nextInt(6); i > 0; i--) {
            int column = r.nextInt(m.wide);
            int row = r.nextInt(m.deep);
            if (taken.add(10 * row + column)) {
                m.addGuy(r, column, row, text);
            }
        }
        for (int i = r.nextInt(7); i > 0; i--) {
            m.addSight(r, text);
        }
        for (int i = r.nextInt(5); i > 0; i--) {
            int coins = r.nextBoolean() ? 100 : r.nextInt(3) == 0 ? r.nextInt(10000) : r.nextInt(300);
            String name = "b" + (char) ('a' + m.buyers.size());
            m.buyers.add(name);
            m.coins.add(coins);
            text.append("buyer ").append(name).append(coins == 100 ? "" : " coins " + coins).append(";");
        }
        return m;
    }

    private void addGuy(Random r, int column, int row, StringBuilder text) {
        Guy g = new Guy();
        g.name = "p" + (char) ('a' + guys.size());
        g.homeColumn = column;
        g.homeRow = row;
        g.comes = r.nextInt(3) == 0 ? r.nextInt(12) : 0;
        g.leaves = r.nextInt(3) == 0 ? 1 + r.nextInt(40) : -1;
        text.append("person ").append(g.name).append(" at ").append(column).append(' ').append(row);
        text.append(g.comes > 0 || r.nextBoolean() ? " comes " + g.comes : "");
        text.append(g.leaves > 0 ? " leaves " + g.leaves : "").append(" goes");
        for (int k = 1 + r.nextInt(8); k > 0; k--) {
            int step = r.nextInt(5);
            g.steps.add(step);
            text.append(' ').append(STEPS[step]);
        }
        text.append(";");
        g.there = g.comes == 0;
        g.column = column;
        g.row = row;
        guys.add(g);
    }

    private void addSight(Random r, StringBuilder text) {
        String name = "s" + (char) ('a' + sights.size());
        int one = guys.isEmpty() ? -1 : r.nextInt(guys.size());
        int other = guys.isEmpty() ? -1 : r.nextInt(guys.size());
        if (one < 0 || r.nextInt(5) == 0) {
            sights.add(new Sight(name, 2, -1, 0, 0, -1));
            text.append("sight ").append(name).append(" empty;");
        } else if (one == other || r.nextBoolean()) {
            Sight s = new Sight(name, 0, one, r.nextInt(wide), r.nextInt(deep), -1);
            sights.add(s);
            text.append("sight ").append(name).append(" of ").append(guys.get(one).name);
            text.append(" at ").append(s.column()).append(' ').append(s.row()).append(";");
        } else {
            sights.add(new Sight(name, 1, one, 0, 0, other));
            text.append("sight ").append(name).append(" of ").append(guys.get(one).name);
            text.append(" with ").append(guys.get(other).name).append(";");
        }
    }

    /** RUNS by chance for this scene; at most so many acts more, their text comes to text. */
    List<Act> randomActs(Random r, int most, int depth, StringBuilder text) {
        List<Act> all = new ArrayList<>();
        for (int i = r.nextInt(most + 1); i > 0 && text.length() < 200; i--) {
            Act a = randomAct(r, most, depth, text);
            if (a != null) {
                all.add(a);
            }
        }
        return all;
    }

    private Act randomAct(Random r, int most, int depth, StringBuilder text) {
        int b = buyers.size();
        int kind = r.nextInt(12);
        if (kind < 2) {
            int many = 1 + r.nextInt(20);
            text.append("skip ").append(many).append(";");
            return new Act("skip", many, 0, "", List.of());
        }
        if (kind == 2) {
            text.append("any ;");
            return new Act("any", 0, 0, "", List.of());
        }
        if (kind == 3 && r.nextInt(3) == 0) {
            text.append("stop;");
            return new Act("stop", 0, 0, "", List.of());
        }
        if (kind < 6 && b > 0) {
            int buyer = r.nextInt(b);
            int many = 1 + (r.nextBoolean() ? r.nextInt(20) : r.nextInt(3));
            text.append("buy ").append(buyers.get(buyer)).append(' ').append(many).append(";");
            return new Act("buy", buyer, many, "", List.of());
        }
        if (kind == 6 && b > 0) {
            int from = r.nextInt(b);
            int to = r.nextInt(b);
            text.append("give ").append(buyers.get(from)).append(' ').append(buyers.get(to)).append(";");
            return new Act("give", from, to, "", List.of());
        }
        return depth < 3 && kind > 6 ? randomBlock(r, most, depth, text, kind) : null;
    }

    private Act randomBlock(Random r, int most, int depth, StringBuilder text, int kind) {
        String word;
        int one;
        int two = 0;
        String compare = "";
        if (kind == 7 && !sights.isEmpty()) {
            word = "shows";
            one = r.nextInt(sights.size());
            text.append("when shows ").append(sights.get(one).name()).append(";");
        } else if (kind == 8 && !guys.isEmpty()) {
            word = "there";
            one = r.nextInt(guys.size());
            text.append("when there ").append(guys.get(one).name).append(";");
        } else if (kind == 9 && !buyers.isEmpty()) {
            word = "coins";
            one = r.nextInt(buyers.size());
            two = r.nextBoolean() ? coins.get(one) : r.nextInt(200);
            compare = "<>=".substring(r.nextInt(3)).substring(0, 1);
            text.append("when coins ").append(buyers.get(one)).append(compare).append(two).append(";");
        } else {
            word = "loop";
            one = 1 + (r.nextInt(4) == 0 ? r.nextInt(99) : r.nextInt(5));
            text.append("loop ").append(one).append(";");
        }
        List<Act> body = randomActs(r, Math.max(1, most / 2), depth + 1, text);
        text.append("end;");
        return new Act(word, one, two, compare, body);
    }

    static int count(List<Act> all) {
        int sum = 0;
        for (Act a : all) {
            sum += 1 + count(a.body());
        }
        return sum;
    }
}
