import java.math.BigInteger;
import java.nio.charset.StandardCharsets;
import java.util.ArrayDeque;
import java.util.Arrays;
import java.util.Collections;
import java.util.Deque;
import java.util.List;
import java.util.function.LongSupplier;

/**
 * The whole face of the document a second time, over Model and Grammar: every call with its STATUS, by the same names, so
 * that WholeTest can ask both. What is refused is thrown, in the order in which ==== 5 tells it.
 */
final class SlowPrints {
    private static final class Refused extends RuntimeException {
        final int status;

        Refused(int status) {
            super(null, null, false, false);
            this.status = status;
        }
    }

    private Model m = new Model();
    private final Deque<Model> marks = new ArrayDeque<>();
    private final long[][] trays = new long[4][];
    private final int[] sorts = new int[4];
    private byte[] tape = {};
    private int status = 0;
    private BigInteger top = BigInteger.ZERO;
    private BigInteger bottom = BigInteger.ONE;
    private int[] fault = {-1, -1};
    private int[] lived = null;

    Model model() {
        return m;
    }

    long onTape() {
        return tape.length;
    }

    // ---- how a call is answered

    private long ask(LongSupplier question) {
        try {
            long got = question.getAsLong();
            status = 0;
            return got;
        } catch (Refused r) {
            status = r.status;
            return -1;
        }
    }

    private boolean change(Runnable what) {
        return ask(() -> {
            what.run();
            return 1;
        }) == 1;
    }

    private static void refuse(boolean is, int status) {
        if (is) {
            throw new Refused(status);
        }
    }

    private static void range(int number, int least, int most) {
        refuse(number < least || number > most, 1);
    }

    private static long found(long number) {
        refuse(number < 0, 6);
        return number;
    }

    private Model.Guy guy(int person) {
        range(person, 0, m.guys.size() - 1);
        return m.guys.get(person);
    }

    private void isSight(int sight) {
        range(sight, 0, m.sights.size() - 1);
    }

    private void isBuyer(int buyer) {
        range(buyer, 0, m.buyers.size() - 1);
    }

    private int cell(int column, int row) {
        range(column, 0, m.wide - 1);
        range(row, 0, m.deep - 1);
        return 10 * row + column;
    }

    private void isMade(int print) {
        range(print, 1, m.second);
    }

    private long[] filled(int tray) {
        refuse(trays[tray] == null, 2);
        return trays[tray];
    }

    private void setFraction(BigInteger over, BigInteger under) {
        BigInteger common = over.gcd(under);
        top = over.divide(common);
        bottom = under.divide(common);
    }

    long status() {
        return status;
    }

    long top() {
        return top.longValueExact();
    }

    long bottom() {
        return bottom.longValueExact();
    }

    // ---- TRAYS

    boolean tray(int tray, int sort, int many) {
        return change(() -> {
            range(tray, 0, 3);
            range(sort, 0, 3);
            range(many, 0, 60);
            trays[tray] = new long[many];
            sorts[tray] = sort;
        });
    }

    private long[] withPlace(int tray, int place) {
        range(tray, 0, 3);
        long[] row = filled(tray);
        refuse(place < 0 || place >= row.length, 3);
        return row;
    }

    boolean write(int tray, int place, long v) {
        return change(() -> {
            long[] row = withPlace(tray, place);
            int unused = 64 - (8 << sorts[tray]);
            row[place] = v << unused >> unused;
        });
    }

    long read(int tray, int place) {
        return ask(() -> withPlace(tray, place)[place]);
    }

    boolean pour(int from, int place, int to, int at, int many) {
        return change(() -> {
            range(from, 0, 3);
            range(to, 0, 3);
            refuse(place < 0 || at < 0 || many < 0, 1);
            refuse(trays[from] == null || trays[to] == null, 2);
            refuse(sorts[from] != sorts[to], 8);
            refuse((long) place + many > trays[from].length || (long) at + many > trays[to].length, 3);
            long[] asTheyWere = trays[from].clone();
            for (int i = 0; i < many; i++) {
                trays[to][at + i] = asTheyWere[place + i];
            }
        });
    }

    // ---- texts

    long feed(int a, int b, int c, int d, int e) {
        if (tape.length > 880) {
            return -1;
        }
        int[] five = {a, b, c, d, e};
        int had = tape.length;
        tape = Arrays.copyOf(tape, had + 20);
        for (int i = 0; i < 20; i++) {
            tape[had + i] = (byte) (five[i / 4] >> 8 * (3 - i % 4));
        }
        return tape.length;
    }

    private String takeTape(int n) {
        String text = new String(tape, 0, n, StandardCharsets.ISO_8859_1);
        tape = new byte[0];
        return text;
    }

    long scene(int n) {
        return ask(() -> {
            range(n, 0, tape.length);
            Grammar g = new Grammar();
            fault = g.scene(takeTape(n));
            refuse(fault[0] != 0, 9);
            m = g.model();
            return m.sights.size();
        });
    }

    long runs(int n) {
        return ask(() -> {
            range(n, 0, Math.min(300, tape.length));
            Grammar g = new Grammar(m);
            fault = g.runs(takeTape(n));
            refuse(fault[0] != 0, 9);
            m.runs = g.tree();
            return g.acts();
        });
    }

    long fault(int what) {
        return what == 0 || what == 1 ? fault[what] : -1;
    }

    long told(int what) {
        return ask(() -> {
            range(what, 0, 13);
            int there = 0;
            int gone = 0;
            for (int p = 0; p < m.guys.size(); p++) {
                there += m.guys.get(p).there ? 1 << p : 0;
                gone += m.guys.get(p).gone ? 1 << p : 0;
            }
            int[] all = {m.wide, m.deep, m.guys.size(), m.sights.size(), m.buyers.size(), m.second, m.priceOf(m.second + 1),
                m.rises, there, gone, m.shown(), m.walls.size(), m.allCoins(), m.owners.size()};
            return all[what];
        });
    }

    long who(int column, int row) {
        return ask(() -> {
            cell(column, row);
            return found(m.at(column, row));
        });
    }

    long wall(int column, int row) {
        return ask(() -> m.walls.contains(cell(column, row)) ? 1 : 0);
    }

    long person(int person, int what) {
        return ask(() -> {
            Model.Guy g = guy(person);
            range(what, 0, 4);
            refuse(what < 2 && !g.there, 6);
            int[] all = {g.column, g.row, g.comes, g.leaves, g.steps.size()};
            return found(all[what]);
        });
    }

    long stepOf(int person, int k) {
        return ask(() -> {
            Model.Guy g = guy(person);
            refuse(k < 0 || k >= g.steps.size(), 6);
            return g.steps.get(k);
        });
    }

    long sight(int sight, int what) {
        return ask(() -> {
            isSight(sight);
            range(what, 0, 2);
            Model.Sight s = m.sights.get(sight);
            if (what == 0) {
                return s.kind();
            }
            return found(what == 1 ? s.one() : s.kind() == 0 ? 10 * s.row() + s.column() : s.other());
        });
    }

    long coins(int buyer) {
        return ask(() -> {
            isBuyer(buyer);
            return m.coins.get(buyer);
        });
    }

    private int ownerOf(int print) {
        return m.owners.getOrDefault(print, -1);
    }

    long owner(int print) {
        return ask(() -> {
            isMade(print);
            return found(ownerOf(print));
        });
    }

    long prints(int buyer) {
        return ask(() -> {
            isBuyer(buyer);
            return Collections.frequency(m.owners.values(), buyer);
        });
    }

    // ---- what is done

    long buy(int buyer, int n) {
        return ask(() -> {
            isBuyer(buyer);
            range(n, 1, 99);
            int before = m.second;
            while (m.second < before + n && m.second < 999 && m.priceOf(m.second + 1) <= m.coins.get(buyer)) {
                m.makeFor(buyer);
            }
            refuse(m.second == before, 7);
            return m.second - before;
        });
    }

    long skip(int n) {
        return ask(() -> {
            range(n, 1, 99);
            refuse(m.second + n > 999, 4);
            m = m.in(n);
            return m.second;
        });
    }

    long give(int print, int buyer) {
        return ask(() -> {
            isMade(print);
            isBuyer(buyer);
            int from = ownerOf(print);
            refuse(from < 0 || from == buyer, 7);
            m.owners.put(print, buyer);
            return from;
        });
    }

    long back(int buyer, int print) {
        return ask(() -> {
            isBuyer(buyer);
            isMade(print);
            refuse(ownerOf(print) != buyer, 7);
            m.owners.remove(print);
            m.coins.set(buyer, Math.min(9999, m.coins.get(buyer) + m.priceOf(print) / 2));
            return m.coins.get(buyer);
        });
    }

    long earn(int buyer, int much) {
        return ask(() -> {
            isBuyer(buyer);
            range(much, 1, 999);
            refuse(m.coins.get(buyer) + much > 9999, 7);
            m.coins.set(buyer, m.coins.get(buyer) + much);
            return m.coins.get(buyer);
        });
    }

    boolean price(int first, int rises) {
        return change(() -> {
            range(first, 0, 99);
            range(rises, 0, 20);
            m.first = first;
            m.rises = rises;
        });
    }

    boolean build(int column, int row, boolean is) {
        return change(() -> {
            int cell = cell(column, row);
            refuse(m.at(column, row) >= 0, 7);
            refuse(!(is ? m.walls.add(cell) : m.walls.remove(cell)), 7);
        });
    }

    boolean teach(int person, int k, int step) {
        return change(() -> {
            Model.Guy g = guy(person);
            range(k, 0, g.steps.size() - 1);
            range(step, 0, 4);
            g.steps.set(k, step);
        });
    }

    boolean place(int person, int column, int row) {
        return change(() -> {
            Model.Guy g = guy(person);
            cell(column, row);
            refuse(!g.there || !m.open(column, row) || m.at(column, row) >= 0, 7);
            g.column = column;
            g.row = row;
        });
    }

    // ---- what would be

    long priceOf(int print) {
        return ask(() -> {
            range(print, 1, 999);
            return m.priceOf(print);
        });
    }

    long costOf(int many) {
        return ask(() -> {
            range(many, 0, 200);
            return m.costOf(many);
        });
    }

    long placeIn(int person, int seconds) {
        return ask(() -> {
            guy(person);
            range(seconds, 0, 200);
            return found(m.in(seconds).place(person));
        });
    }

    long whoIn(int column, int row, int seconds) {
        return ask(() -> {
            cell(column, row);
            range(seconds, 0, 200);
            return found(m.in(seconds).at(column, row));
        });
    }

    long showsIn(int seconds) {
        return ask(() -> {
            range(seconds, 0, 200);
            return m.in(seconds).shown();
        });
    }

    /** A sign for each of the next n prints, # where it shows the sight. */
    private String row(int sight, int n) {
        StringBuilder row = new StringBuilder();
        m.film(n).forEach(later -> row.append(later.shows(sight) ? '#' : ' '));
        return row.substring(1);
    }

    private int firstOf(int sight) {
        return (int) found(row(sight, 200).indexOf('#')) + 1;
    }

    long first(int sight) {
        return ask(() -> {
            isSight(sight);
            return firstOf(sight);
        });
    }

    long cost(int sight) {
        return ask(() -> {
            isSight(sight);
            return m.costOf(firstOf(sight));
        });
    }

    long often(int sight, int n) {
        return ask(() -> {
            isSight(sight);
            range(n, 1, 200);
            return row(sight, n).replace(" ", "").length();
        });
    }

    long longest(int sight, int n) {
        return ask(() -> {
            isSight(sight);
            range(n, 1, 200);
            return Arrays.stream(row(sight, n).split(" ")).mapToInt(String::length).max().orElse(0);
        });
    }

    /** Where somebody is in this second and the next n. */
    private int[] way(int person, int n) {
        return m.film(n).stream().mapToInt(later -> later.place(person)).toArray();
    }

    long gone(int person) {
        return ask(() -> {
            guy(person);
            int[] way = way(person, 200);
            int latest = 0;
            for (int k = 1; k <= 200; k++) {
                latest = way[k] >= 0 ? k : latest;
            }
            refuse(latest == 200, 6);
            return latest + 1;
        });
    }

    private static String look(Model scene) {
        StringBuilder all = new StringBuilder();
        for (int p = 0; p < scene.guys.size(); p++) {
            all.append(scene.guys.get(p).gone ? "gone" : scene.place(p)).append(' ');
        }
        return all.toString();
    }

    long again() {
        return ask(() -> {
            List<String> film = m.film(200).stream().map(SlowPrints::look).toList();
            return 1 + found(film.subList(1, 201).indexOf(film.get(0)));
        });
    }

    long stays(int person, int n) {
        return ask(() -> {
            guy(person);
            range(n, 1, 200);
            int[] way = way(person, n);
            int stays = 0;
            for (int k = 1; k <= n; k++) {
                stays += way[k] >= 0 && way[k] == way[k - 1] ? 1 : 0;
            }
            return stays;
        });
    }

    // ---- bargains

    private int[] best(int sights, int n) {
        range(sights, 0, (1 << m.sights.size()) - 1);
        range(n, 1, 12);
        int[] best = m.bestCover(sights, n);
        refuse(best == null, 6);
        return best;
    }

    long cover(int sights, int n) {
        return ask(() -> best(sights, n)[0]);
    }

    long coverSet(int sights, int n) {
        return ask(() -> best(sights, n)[2]);
    }

    long share(int n, int who) {
        return ask(() -> {
            range(n, 1, 60);
            range(who, 0, 1);
            List<Model> film = m.film(n);
            int seen = 0;
            for (int k = 1; k <= n; k++) {
                seen |= k % 2 != who ? film.get(k).shown() : 0;
            }
            return Integer.bitCount(seen);
        });
    }

    /** The least winning number to buy by trying all, from where the one that matters is so far ahead; 0 if there is none. */
    private static int winningBuy(int ahead, int most) {
        int[] best = new int[ahead + 1];
        for (int left = 1; left <= ahead; left++) {
            for (int bought = most; bought >= 1; bought--) {
                boolean wins = bought >= left || best[left - bought] == 0;
                best[left] = wins ? bought : best[left];
            }
        }
        return best[ahead];
    }

    private int opening(int sight, int most) {
        isSight(sight);
        range(most, 1, 9);
        return winningBuy(firstOf(sight), most);
    }

    long turns(int sight, int most) {
        return ask(() -> opening(sight, most) > 0 ? 1 : 0);
    }

    long turnsFirst(int sight, int most) {
        return ask(() -> {
            int buys = opening(sight, most);
            refuse(buys == 0, 6);
            return buys;
        });
    }

    boolean comesBack(int seconds, int odds) {
        return change(() -> {
            range(seconds, 0, 12);
            range(odds, 0, 16);
            BigInteger sixteen = BigInteger.valueOf(16);
            BigInteger back = BigInteger.ZERO;
            BigInteger all = BigInteger.ONE;
            for (int i = 0; i < seconds; i++) {
                BigInteger now = all.subtract(back).multiply(BigInteger.valueOf(odds));
                back = back.multiply(sixteen).add(now);
                all = all.multiply(sixteen);
            }
            setFraction(back, all);
        });
    }

    private int most(int buyer) {
        isBuyer(buyer);
        int many = 0;
        int left = m.coins.get(buyer) - m.priceOf(m.second + 1);
        while (many < 200 && left >= 0) {
            many++;
            left -= m.priceOf(m.second + many + 1);
        }
        return many;
    }

    long afford(int buyer) {
        return ask(() -> most(buyer));
    }

    long sees(int buyer) {
        return ask(() -> {
            int seen = 0;
            for (Model later : m.in(1).film(200).subList(0, most(buyer))) {
                seen |= later.shown();
            }
            return seen;
        });
    }

    // ---- steps from prints

    /** The first n numbers of a tray, behind the asking of what can be refused with 1. */
    private int[] track(int tray, int n) {
        long[] row = filled(tray);
        refuse(row.length < n, 3);
        int[] cells = new int[n];
        for (int k = 0; k < n; k++) {
            boolean isUnknown = row[k] == -1 && k > 0;
            boolean isCell = row[k] >= 0 && row[k] < 100 && m.open((int) row[k] % 10, (int) row[k] / 10);
            refuse(!isUnknown && !isCell, 5);
            cells[k] = (int) row[k];
        }
        return cells;
    }

    private static void isTrack(int tray, int n, int p) {
        range(tray, 0, 3);
        range(n, 1, 20);
        range(p, 1, 4);
    }

    long steps(int tray, int n, int p) {
        return ask(() -> {
            isTrack(tray, n, p);
            return m.rowsAlong(track(tray, n), p).size();
        });
    }

    long stepsAt(int tray, int n, int p, int k) {
        return ask(() -> {
            isTrack(tray, n, p);
            range(k, 0, p - 1);
            List<int[]> rows = m.rowsAlong(track(tray, n), p);
            refuse(rows.isEmpty(), 6);
            return rows.get(0)[k];
        });
    }

    long period(int tray, int n) {
        return ask(() -> {
            isTrack(tray, n, 1);
            int[] cells = track(tray, n);
            for (int p = 1; p <= 4; p++) {
                if (!m.rowsAlong(cells, p).isEmpty()) {
                    return p;
                }
            }
            throw new Refused(6);
        });
    }

    long copyWay(int person, int tray, int n) {
        return ask(() -> {
            guy(person);
            isTrack(tray, n, 1);
            long[] row = filled(tray);
            refuse(row.length < n, 3);
            int[] way = way(person, n - 1);
            for (int k = 0; k < n; k++) {
                row[k] = way[k];
            }
            return n;
        });
    }

    long between(int column, int row, int toColumn, int toRow, int n) {
        return ask(() -> {
            int from = cell(column, row);
            int to = cell(toColumn, toRow);
            range(n, 0, 12);
            refuse(m.walls.contains(from) || m.walls.contains(to), 7);
            return m.ways(from, to, n);
        });
    }

    long origin(int column, int row, int step) {
        return ask(() -> {
            int to = cell(column, row);
            range(step, 0, 4);
            refuse(m.walls.contains(to), 7);
            int set = 0;
            for (int i = 0; i < m.wide * m.deep; i++) {
                int from = 10 * (i / m.wide) + i % m.wide;
                set += !m.walls.contains(from) && m.move(from, step) == to ? 1 << i : 0;
            }
            return set;
        });
    }

    // ---- RUNS

    long live(int seed) {
        return ask(() -> {
            range(seed, 0, 9999);
            refuse(m.runs == null, 6);
            m.live(m.runs, seed);
            lived = new int[] {m.missed, m.made, m.bought, m.paid, m.left ? 1 : 0};
            return m.acts;
        });
    }

    long lived(int what) {
        return ask(() -> {
            range(what, 0, 4);
            refuse(lived == null, 6);
            return lived[what];
        });
    }

    boolean mean(int seed, int many) {
        return change(() -> {
            range(many, 1, 20);
            range(seed, 0, 9999);
            range(seed + many - 1, 0, 9999);
            refuse(m.runs == null, 6);
            BigInteger sum = BigInteger.ZERO;
            for (int i = 0; i < many; i++) {
                Model trial = m.copy();
                trial.live(m.runs, seed + i);
                sum = sum.add(BigInteger.valueOf(trial.allCoins()));
            }
            setFraction(sum, BigInteger.valueOf(many));
        });
    }

    // ---- MARKS

    long mark() {
        return ask(() -> {
            refuse(marks.size() == 3, 4);
            marks.push(m.copy());
            return marks.size();
        });
    }

    long undo() {
        return ask(() -> {
            refuse(marks.isEmpty(), 6);
            m = marks.pop();
            return marks.size();
        });
    }
}
