import java.util.Arrays;

/**
 * A negative from which each print is a second later: a scene with people who come, go and leave,
 * sights, buyers and prints that become dearer one by one. The promises stand in DOC.md; every call
 * with a status answers NONE or false, and changes nothing, where its status is not 0.
 */
public final class LaterPrints {
    public static final int NONE = -1;

    private static final int MOST_TAPE = 900;
    private static final int MOST_RUN_TEXT = 300;
    private static final int TRAYS = 4;
    private static final int MOST_IN_TRAY = 60;
    private static final int MOST_PERSONS = 5;
    private static final int MOST_STEPS = 8;
    private static final int MOST_SIGHTS = 6;
    private static final int MOST_BUYERS = 4;
    private static final int MOST_MARKS = 3;
    private static final int MOST_COINS = 9999;
    private static final int MOST_SEED = 9999;
    private static final int LAST_SECOND = 999;
    private static final int KEPT_PRINTS = 120;
    private static final int FAR = 200;
    private static final int STEP_KINDS = 5;

    private final long[][] trayRows = new long[TRAYS][MOST_IN_TRAY];
    private final int[] traySorts = new int[TRAYS];
    private final int[] traySizes = new int[TRAYS];
    private final Reader reader = new Reader();
    private int onTape = 0;
    private int status = 0;
    private long top = 0;
    private long bottom = 1;
    private int faultKind = NONE;
    private int faultPlace = NONE;
    private final World world = new World();
    private final World[] marks = new World[MOST_MARKS];
    private int marked = 0;
    private final SceneReader sceneReader = new SceneReader(reader);
    private final RunReader runReader = new RunReader(reader);
    private final Runner runner = new Runner();
    private final int[] latestLife = new int[Runner.TOLD];
    private boolean hasLived = false;
    private final Ahead ahead = new Ahead();
    private final Tracks tracks = new Tracks();

    public LaterPrints() {
        Arrays.fill(traySorts, NONE);
        for (int i = 0; i < MOST_MARKS; i++) {
            marks[i] = new World();
        }
    }

    // ---- how a call went

    public int status() {
        return status;
    }

    public long top() {
        return top;
    }

    public long bottom() {
        return bottom;
    }

    private int answer(int value) {
        status = 0;
        return value;
    }

    private int refuse(int why) {
        status = why;
        return NONE;
    }

    private boolean accept() {
        status = 0;
        return true;
    }

    private boolean reject(int why) {
        status = why;
        return false;
    }

    /** Answers what was found, or 6 where that is NONE: most questions end so. */
    private int answerFound(int found) {
        return found == NONE ? refuse(6) : answer(found);
    }

    private void tellFraction(long over, long under) {
        long a = over;
        long b = under;
        // Euclid's steps halve a long at least every second time, so 128 are never reached.
        for (int i = 0; i < 128 && b != 0; i++) {
            long rest = a % b;
            a = b;
            b = rest;
        }
        long common = a > 0 ? a : 1;
        top = over / common;
        bottom = under / common;
    }

    // ---- what can be named

    private static boolean isWithin(int number, int least, int most) {
        return number >= least && number <= most;
    }

    private boolean isPerson(int person) {
        return isWithin(person, 0, world.folk.many - 1);
    }

    private boolean isSight(int sight) {
        return isWithin(sight, 0, world.sights.many - 1);
    }

    private boolean isSightSet(int sights) {
        return isWithin(sights, 0, (1 << world.sights.many) - 1);
    }

    private boolean isBuyer(int buyer) {
        return isWithin(buyer, 0, world.buyers - 1);
    }

    private boolean isMade(int print) {
        return isWithin(print, 1, world.folk.second);
    }

    private static boolean isTray(int tray) {
        return isWithin(tray, 0, TRAYS - 1);
    }

    // ---- TRAYS

    public boolean tray(int tray, int sort, int many) {
        if (!isTray(tray) || !isWithin(sort, 0, 3) || !isWithin(many, 0, MOST_IN_TRAY)) {
            return reject(1);
        }
        traySorts[tray] = sort;
        traySizes[tray] = many;
        Arrays.fill(trayRows[tray], 0L);
        return accept();
    }

    public boolean write(int tray, int place, long v) {
        int why = whyNoPlace(tray, place);
        if (why != 0) {
            return reject(why);
        }
        trayRows[tray][place] = cutTo(traySorts[tray], v);
        return accept();
    }

    public long read(int tray, int place) {
        int why = whyNoPlace(tray, place);
        if (why != 0) {
            return refuse(why);
        }
        status = 0;
        return trayRows[tray][place];
    }

    public boolean pour(int from, int place, int to, int at, int many) {
        if (!isTray(from) || !isTray(to) || place < 0 || at < 0 || many < 0) {
            return reject(1);
        }
        if (traySorts[from] == NONE || traySorts[to] == NONE) {
            return reject(2);
        }
        if (traySorts[from] != traySorts[to]) {
            return reject(8);
        }
        // Written as differences: a sum of two large ints would wrap around.
        if (many > traySizes[from] - place || many > traySizes[to] - at) {
            return reject(3);
        }
        System.arraycopy(trayRows[from], place, trayRows[to], at, many);
        return accept();
    }

    private int whyNoPlace(int tray, int place) {
        if (!isTray(tray)) {
            return 1;
        }
        if (traySorts[tray] == NONE) {
            return 2;
        }
        return isWithin(place, 0, traySizes[tray] - 1) ? 0 : 3;
    }

    /** Why the first n numbers of a tray can't be used; the tray is known to be one. */
    private int whyTooFew(int tray, int n) {
        if (traySorts[tray] == NONE) {
            return 2;
        }
        return traySizes[tray] < n ? 3 : 0;
    }

    private static long cutTo(int sort, long v) {
        switch (sort) {
            case 0:
                return (byte) v;
            case 1:
                return (short) v;
            case 2:
                return (int) v;
            default:
                return v;
        }
    }

    // ---- texts

    public int feed(int a, int b, int c, int d, int e) {
        if (onTape + 20 > MOST_TAPE) {
            return NONE;
        }
        putOnTape(a);
        putOnTape(b);
        putOnTape(c);
        putOnTape(d);
        putOnTape(e);
        return onTape;
    }

    private void putOnTape(int four) {
        for (int shift = 24; shift >= 0; shift -= 8) {
            if (onTape < MOST_TAPE) {
                reader.text[onTape] = (byte) (four >>> shift);
                onTape++;
            }
        }
    }

    public int scene(int n) {
        if (!isWithin(n, 0, onTape)) {
            return refuse(1);
        }
        onTape = 0;
        boolean isTaken = sceneReader.reads(n);
        keepFault();
        if (!isTaken) {
            return refuse(9);
        }
        world.takeOver(sceneReader.draft);
        return answer(world.sights.many);
    }

    public int runs(int n) {
        if (!isWithin(n, 0, Math.min(onTape, MOST_RUN_TEXT))) {
            return refuse(1);
        }
        onTape = 0;
        boolean isTaken = runReader.reads(world, n);
        keepFault();
        if (!isTaken) {
            return refuse(9);
        }
        world.runs.takeOver(runReader.draft);
        return answer(world.runs.acts);
    }

    private void keepFault() {
        faultKind = reader.faultKind;
        faultPlace = reader.faultPlace;
    }

    public int fault(int what) {
        if (what == 0) {
            return faultKind;
        }
        return what == 1 ? faultPlace : NONE;
    }

    public int told(int what) {
        Folk folk = world.folk;
        switch (what) {
            case 0:
                return answer(world.room.wide);
            case 1:
                return answer(world.room.deep);
            case 2:
                return answer(folk.many);
            case 3:
                return answer(world.sights.many);
            case 4:
                return answer(world.buyers);
            case 5:
                return answer(folk.second);
            case 6:
                return answer(world.priceAt(folk.second + 1));
            case 7:
                return answer(world.rise);
            case 8:
                return answer(folk.setIn(Folk.THERE));
            case 9:
                return answer(folk.setIn(Folk.GONE));
            case 10:
                return answer(world.sights.shownBy(folk));
            case 11:
                return answer(Long.bitCount(world.room.walls));
            case 12:
                return answer(world.allCoins());
            case 13:
                return answer(world.ownedPrints());
            default:
                return refuse(1);
        }
    }

    public int who(int column, int row) {
        if (!world.room.hasCell(column, row)) {
            return refuse(1);
        }
        return answerFound(world.folk.standing(Room.cellOf(column, row)));
    }

    public int wall(int column, int row) {
        if (!world.room.hasCell(column, row)) {
            return refuse(1);
        }
        return answer(world.room.isWall(Room.cellOf(column, row)) ? 1 : 0);
    }

    public int person(int person, int what) {
        if (!isPerson(person) || !isWithin(what, 0, 4)) {
            return refuse(1);
        }
        Folk folk = world.folk;
        int cell = folk.cellNow(person);
        switch (what) {
            case 0:
                return answerFound(cell == NONE ? NONE : Room.columnOf(cell));
            case 1:
                return answerFound(cell == NONE ? NONE : Room.rowOf(cell));
            case 2:
                return answer(folk.comes[person]);
            case 3:
                return answerFound(folk.leaves[person]);
            default:
                return answer(folk.stepMany[person]);
        }
    }

    public int stepOf(int person, int k) {
        if (!isPerson(person)) {
            return refuse(1);
        }
        if (!isWithin(k, 0, world.folk.stepMany[person] - 1)) {
            return refuse(6);
        }
        return answer(world.folk.stepRows[person * MOST_STEPS + k]);
    }

    public int sight(int sight, int what) {
        if (!isSight(sight) || !isWithin(what, 0, 2)) {
            return refuse(1);
        }
        Sights sights = world.sights;
        if (what == 0) {
            return answer(sights.kinds[sight]);
        }
        return answerFound(what == 1 ? sights.ones[sight] : sights.others[sight]);
    }

    public int coins(int buyer) {
        return isBuyer(buyer) ? answer(world.purses[buyer]) : refuse(1);
    }

    public int owner(int print) {
        return isMade(print) ? answerFound(world.ownerOf(print)) : refuse(1);
    }

    public int prints(int buyer) {
        return isBuyer(buyer) ? answer(world.printsOf(buyer)) : refuse(1);
    }

    // ---- what is done

    public int buy(int buyer, int n) {
        if (!isBuyer(buyer) || !isWithin(n, 1, 99)) {
            return refuse(1);
        }
        int bought = 0;
        while (bought < n && world.canBuy(buyer, 1)) {
            world.makePrint(buyer);
            bought++;
        }
        return bought == 0 ? refuse(7) : answer(bought);
    }

    public int skip(int n) {
        if (!isWithin(n, 1, 99)) {
            return refuse(1);
        }
        if (!world.canMake(n)) {
            return refuse(4);
        }
        for (int i = 0; i < n; i++) {
            world.makePrint(NONE);
        }
        return answer(world.folk.second);
    }

    public int give(int print, int buyer) {
        if (!isMade(print) || !isBuyer(buyer)) {
            return refuse(1);
        }
        int from = world.ownerOf(print);
        if (from == NONE || from == buyer) {
            return refuse(7);
        }
        world.keepFor(print, buyer);
        return answer(from);
    }

    public int back(int buyer, int print) {
        if (!isBuyer(buyer) || !isMade(print)) {
            return refuse(1);
        }
        if (world.ownerOf(print) != buyer) {
            return refuse(7);
        }
        world.keepFor(print, NONE);
        int sum = world.purses[buyer] + world.priceAt(print) / 2;
        world.purses[buyer] = Math.min(sum, MOST_COINS);
        return answer(world.purses[buyer]);
    }

    public int earn(int buyer, int much) {
        if (!isBuyer(buyer) || !isWithin(much, 1, 999)) {
            return refuse(1);
        }
        if (world.purses[buyer] + much > MOST_COINS) {
            return refuse(7);
        }
        world.purses[buyer] += much;
        return answer(world.purses[buyer]);
    }

    public boolean price(int first, int rises) {
        if (!isWithin(first, 0, World.MOST_FIRST_PRICE) || !isWithin(rises, 0, World.MOST_RISE)) {
            return reject(1);
        }
        world.firstPrice = first;
        world.rise = rises;
        return accept();
    }

    public boolean build(int column, int row, boolean is) {
        if (!world.room.hasCell(column, row)) {
            return reject(1);
        }
        int cell = Room.cellOf(column, row);
        if (world.room.isWall(cell) == is || world.folk.standing(cell) != NONE) {
            return reject(7);
        }
        world.room.walls ^= 1L << cell;
        return accept();
    }

    public boolean teach(int person, int k, int step) {
        if (!isPerson(person) || !isWithin(step, 0, STEP_KINDS - 1)) {
            return reject(1);
        }
        if (!isWithin(k, 0, world.folk.stepMany[person] - 1)) {
            return reject(1);
        }
        world.folk.stepRows[person * MOST_STEPS + k] = step;
        return accept();
    }

    public boolean place(int person, int column, int row) {
        if (!isPerson(person) || !world.room.hasCell(column, row)) {
            return reject(1);
        }
        int cell = Room.cellOf(column, row);
        if (world.folk.cellNow(person) == NONE || !world.folk.isFree(cell, world.room)) {
            return reject(7);
        }
        world.folk.cells[person] = cell;
        return accept();
    }

    // ---- what would be

    public int priceOf(int print) {
        return isWithin(print, 1, LAST_SECOND) ? answer(world.priceAt(print)) : refuse(1);
    }

    public int costOf(int many) {
        return isWithin(many, 0, FAR) ? answer(world.costAhead(many)) : refuse(1);
    }

    public int placeIn(int person, int seconds) {
        if (!isPerson(person) || !isWithin(seconds, 0, FAR)) {
            return refuse(1);
        }
        ahead.goTo(world, seconds);
        return answerFound(ahead.later.cellNow(person));
    }

    public int whoIn(int column, int row, int seconds) {
        if (!world.room.hasCell(column, row) || !isWithin(seconds, 0, FAR)) {
            return refuse(1);
        }
        ahead.goTo(world, seconds);
        return answerFound(ahead.later.standing(Room.cellOf(column, row)));
    }

    public int showsIn(int seconds) {
        if (!isWithin(seconds, 0, FAR)) {
            return refuse(1);
        }
        ahead.goTo(world, seconds);
        return answer(world.sights.shownBy(ahead.later));
    }

    public int first(int sight) {
        return isSight(sight) ? answerFound(ahead.firstShowing(world, sight)) : refuse(1);
    }

    public int cost(int sight) {
        if (!isSight(sight)) {
            return refuse(1);
        }
        int next = ahead.firstShowing(world, sight);
        return next == NONE ? refuse(6) : answer(world.costAhead(next));
    }

    public int often(int sight, int n) {
        if (!isSight(sight) || !isWithin(n, 1, FAR)) {
            return refuse(1);
        }
        ahead.lookAtSights(world, n);
        int found = 0;
        for (int k = 1; k <= n; k++) {
            found += ahead.shown[k] >> sight & 1;
        }
        return answer(found);
    }

    public int longest(int sight, int n) {
        if (!isSight(sight) || !isWithin(n, 1, FAR)) {
            return refuse(1);
        }
        ahead.lookAtSights(world, n);
        int best = 0;
        int row = 0;
        for (int k = 1; k <= n; k++) {
            row = (ahead.shown[k] >> sight & 1) == 1 ? row + 1 : 0;
            best = Math.max(best, row);
        }
        return answer(best);
    }

    public int gone(int person) {
        if (!isPerson(person)) {
            return refuse(1);
        }
        ahead.lookAtPerson(world, person, FAR);
        int absent = FAR + 1;
        while (absent > 1 && ahead.way[absent - 1] == NONE) {
            absent--;
        }
        return absent > FAR ? refuse(6) : answer(absent);
    }

    public int again() {
        ahead.later.takeOver(world.folk);
        for (int k = 1; k <= FAR; k++) {
            ahead.later.goOn(world.room);
            if (ahead.later.isAs(world.folk)) {
                return answer(k);
            }
        }
        return refuse(6);
    }

    public int stays(int person, int n) {
        if (!isPerson(person) || !isWithin(n, 1, FAR)) {
            return refuse(1);
        }
        ahead.lookAtPerson(world, person, n);
        int found = 0;
        for (int k = 1; k <= n; k++) {
            if (ahead.way[k] != NONE && ahead.way[k] == ahead.way[k - 1]) {
                found++;
            }
        }
        return answer(found);
    }

    // ---- bargains

    public int cover(int sights, int n) {
        if (!isSightSet(sights) || !isWithin(n, 1, Ahead.MOST_COVER)) {
            return refuse(1);
        }
        long best = ahead.bestCover(world, sights, n);
        return best == NONE ? refuse(6) : answer(Ahead.costIn(best));
    }

    public int coverSet(int sights, int n) {
        if (!isSightSet(sights) || !isWithin(n, 1, Ahead.MOST_COVER)) {
            return refuse(1);
        }
        long best = ahead.bestCover(world, sights, n);
        return best == NONE ? refuse(6) : answer(Ahead.printsIn(best));
    }

    public int share(int n, int who) {
        if (!isWithin(n, 1, 60) || !isWithin(who, 0, 1)) {
            return refuse(1);
        }
        ahead.lookAtSights(world, n);
        int seen = 0;
        for (int k = 1 + who; k <= n; k += 2) {
            seen |= ahead.shown[k];
        }
        return answer(Integer.bitCount(seen));
    }

    public int turns(int sight, int most) {
        if (!isSight(sight) || !isWithin(most, 1, 9)) {
            return refuse(1);
        }
        int next = ahead.firstShowing(world, sight);
        return next == NONE ? refuse(6) : answer(winningBuy(next, most) > 0 ? 1 : 0);
    }

    public int turnsFirst(int sight, int most) {
        if (!isSight(sight) || !isWithin(most, 1, 9)) {
            return refuse(1);
        }
        int next = ahead.firstShowing(world, sight);
        if (next == NONE || winningBuy(next, most) == 0) {
            return refuse(6);
        }
        return answer(winningBuy(next, most));
    }

    /** Who leaves the other one a multiple of most and 1 wins: how many to buy for that, 0 if it is one already. */
    private static int winningBuy(int distance, int most) {
        return most < 1 ? 0 : distance % (most + 1);
    }

    public boolean comesBack(int seconds, int odds) {
        if (!isWithin(seconds, 0, 12) || !isWithin(odds, 0, 16)) {
            return reject(1);
        }
        long all = 1;
        long never = 1;
        for (int i = 0; i < seconds; i++) {
            all *= 16;
            never *= 16 - odds;
        }
        tellFraction(all - never, all);
        return accept();
    }

    public int afford(int buyer) {
        return isBuyer(buyer) ? answer(mostAffordable(buyer)) : refuse(1);
    }

    public int sees(int buyer) {
        if (!isBuyer(buyer)) {
            return refuse(1);
        }
        int many = mostAffordable(buyer);
        ahead.lookAtSights(world, many);
        int seen = 0;
        for (int k = 1; k <= many; k++) {
            seen |= ahead.shown[k];
        }
        return answer(seen);
    }

    private int mostAffordable(int buyer) {
        int many = 0;
        while (many < FAR && world.costAhead(many + 1) <= world.purses[buyer]) {
            many++;
        }
        return many;
    }

    // ---- steps from prints

    public int steps(int tray, int n, int p) {
        if (!isWithin(p, 1, Tracks.MOST_PERIOD)) {
            return refuse(1);
        }
        int why = whyNoTrack(tray, n);
        return why != 0 ? refuse(why) : answer(tracks.countRows(world.room, p));
    }

    public int stepsAt(int tray, int n, int p, int k) {
        if (!isWithin(p, 1, Tracks.MOST_PERIOD) || !isWithin(k, 0, p - 1)) {
            return refuse(1);
        }
        int why = whyNoTrack(tray, n);
        if (why != 0) {
            return refuse(why);
        }
        if (tracks.countRows(world.room, p) == 0) {
            return refuse(6);
        }
        return answer(tracks.firstRow[k]);
    }

    public int period(int tray, int n) {
        int why = whyNoTrack(tray, n);
        if (why != 0) {
            return refuse(why);
        }
        for (int p = 1; p <= Tracks.MOST_PERIOD; p++) {
            if (tracks.countRows(world.room, p) > 0) {
                return answer(p);
            }
        }
        return refuse(6);
    }

    /** Loads the first n numbers of a tray as the cells of a track: 0, or the status that forbids it. */
    private int whyNoTrack(int tray, int n) {
        if (!isTray(tray) || !isWithin(n, 1, Tracks.MOST_TOLD)) {
            return 1;
        }
        int why = whyTooFew(tray, n);
        if (why != 0) {
            return why;
        }
        return tracks.load(trayRows[tray], n, world.room) ? 0 : 5;
    }

    public int copyWay(int person, int tray, int n) {
        if (!isPerson(person) || !isTray(tray) || !isWithin(n, 1, Tracks.MOST_TOLD)) {
            return refuse(1);
        }
        int why = whyTooFew(tray, n);
        if (why != 0) {
            return refuse(why);
        }
        ahead.lookAtPerson(world, person, n - 1);
        for (int k = 0; k < n; k++) {
            trayRows[tray][k] = ahead.way[k];
        }
        return answer(n);
    }

    public long between(int column, int row, int toColumn, int toRow, int n) {
        Room room = world.room;
        if (!room.hasCell(column, row) || !room.hasCell(toColumn, toRow) || !isWithin(n, 0, 12)) {
            return refuse(1);
        }
        int from = Room.cellOf(column, row);
        int to = Room.cellOf(toColumn, toRow);
        if (room.isWall(from) || room.isWall(to)) {
            return refuse(7);
        }
        status = 0;
        return tracks.countWays(room, from, to, n);
    }

    public int origin(int column, int row, int step) {
        Room room = world.room;
        if (!room.hasCell(column, row) || !isWithin(step, 0, STEP_KINDS - 1)) {
            return refuse(1);
        }
        int to = Room.cellOf(column, row);
        return room.isWall(to) ? refuse(7) : answer(tracks.originSet(room, to, step));
    }

    // ---- RUNS

    public int live(int seed) {
        if (!isWithin(seed, 0, MOST_SEED)) {
            return refuse(1);
        }
        if (!world.runs.isTold) {
            return refuse(6);
        }
        runner.run(world, seed);
        latestLife[0] = runner.missed;
        latestLife[1] = runner.made;
        latestLife[2] = runner.bought;
        latestLife[3] = runner.paid;
        latestLife[4] = runner.isCut ? 1 : 0;
        hasLived = true;
        return answer(runner.acts);
    }

    public int lived(int what) {
        if (!isWithin(what, 0, Runner.TOLD - 1)) {
            return refuse(1);
        }
        return hasLived ? answer(latestLife[what]) : refuse(6);
    }

    public boolean mean(int seed, int many) {
        if (!isWithin(many, 1, 20) || !isWithin(seed, 0, MOST_SEED - many + 1)) {
            return reject(1);
        }
        if (!world.runs.isTold) {
            return reject(6);
        }
        long sum = 0;
        for (int i = 0; i < many; i++) {
            runner.trial.takeOver(world);
            runner.run(runner.trial, seed + i);
            sum += runner.trial.allCoins();
        }
        tellFraction(sum, many);
        return accept();
    }

    // ---- MARKS

    public int mark() {
        if (marked >= MOST_MARKS) {
            return refuse(4);
        }
        marks[marked].takeOver(world);
        marked++;
        return answer(marked);
    }

    public int undo() {
        if (marked < 1) {
            return refuse(6);
        }
        marked--;
        world.takeOver(marks[marked]);
        return answer(marked);
    }

    /** Cells and walls. A cell is 10 times its row and its column, as the document tells it. */
    private static final class Room {
        static final int MOST_WIDE = 6;
        static final int MOST_DEEP = 5;
        static final int CELL_NUMBERS = 10 * MOST_DEEP;
        static final int EAST = 0;
        static final int SOUTH = 1;
        static final int WEST = 2;
        static final int NORTH = 3;
        static final int REST = 4;

        int wide = 0;
        int deep = 0;
        /** Bit c is set where cell c is a wall. */
        long walls = 0;

        void takeOver(Room other) {
            wide = other.wide;
            deep = other.deep;
            walls = other.walls;
        }

        static int cellOf(int column, int row) {
            return 10 * row + column;
        }

        static int columnOf(int cell) {
            return cell % 10;
        }

        static int rowOf(int cell) {
            return cell / 10;
        }

        boolean hasCell(int column, int row) {
            return column >= 0 && column < wide && row >= 0 && row < deep;
        }

        boolean isWall(int cell) {
            return (walls >>> cell & 1L) != 0;
        }

        /** The cell to which a step would lead if nothing stood there; NONE where it leads nowhere. */
        int beside(int cell, int step) {
            int column = cell % 10;
            int row = cell / 10;
            switch (step) {
                case EAST:
                    return column + 1 < wide ? cell + 1 : NONE;
                case SOUTH:
                    return row + 1 < deep ? cell + 10 : NONE;
                case WEST:
                    return column > 0 ? cell - 1 : NONE;
                case NORTH:
                    return row > 0 ? cell - 10 : NONE;
                default:
                    return NONE;
            }
        }

        /** Where somebody alone is after a step. */
        int goneAlone(int cell, int step) {
            int next = beside(cell, step);
            return next == NONE || isWall(next) ? cell : next;
        }
    }

    /** The persons of a scene and its second: all that a second going by changes. */
    private static final class Folk {
        static final int OUTSIDE = 0;
        static final int THERE = 1;
        static final int GONE = 2;

        int many = 0;
        int second = 0;
        final long[] names = new long[MOST_PERSONS];
        final int[] homes = new int[MOST_PERSONS];
        final int[] comes = new int[MOST_PERSONS];
        final int[] leaves = new int[MOST_PERSONS];
        final int[] stepMany = new int[MOST_PERSONS];
        final int[] stepRows = new int[MOST_PERSONS * MOST_STEPS];
        final int[] states = new int[MOST_PERSONS];
        final int[] cells = new int[MOST_PERSONS];

        void takeOver(Folk other) {
            many = other.many;
            second = other.second;
            System.arraycopy(other.names, 0, names, 0, MOST_PERSONS);
            System.arraycopy(other.homes, 0, homes, 0, MOST_PERSONS);
            System.arraycopy(other.comes, 0, comes, 0, MOST_PERSONS);
            System.arraycopy(other.leaves, 0, leaves, 0, MOST_PERSONS);
            System.arraycopy(other.stepMany, 0, stepMany, 0, MOST_PERSONS);
            System.arraycopy(other.stepRows, 0, stepRows, 0, MOST_PERSONS * MOST_STEPS);
            System.arraycopy(other.states, 0, states, 0, MOST_PERSONS);
            System.arraycopy(other.cells, 0, cells, 0, MOST_PERSONS);
        }

        /** Second 0: who comes in it is there. */
        void begin() {
            second = 0;
            for (int p = 0; p < many; p++) {
                states[p] = comes[p] == 0 ? THERE : OUTSIDE;
                cells[p] = homes[p];
            }
        }

        int cellNow(int p) {
            return states[p] == THERE ? cells[p] : NONE;
        }

        int standing(int cell) {
            for (int p = 0; p < many; p++) {
                if (cellNow(p) == cell) {
                    return p;
                }
            }
            return NONE;
        }

        /** Calls nothing, as it stands at the end of the longest chain of calls. */
        boolean isFree(int cell, Room room) {
            if ((room.walls >>> cell & 1L) != 0) {
                return false;
            }
            for (int p = 0; p < many; p++) {
                if (states[p] == THERE && cells[p] == cell) {
                    return false;
                }
            }
            return true;
        }

        boolean isHome(int cell) {
            for (int p = 0; p < many; p++) {
                if (homes[p] == cell) {
                    return true;
                }
            }
            return false;
        }

        int setIn(int state) {
            int set = 0;
            for (int p = 0; p < many; p++) {
                if (states[p] == state) {
                    set |= 1 << p;
                }
            }
            return set;
        }

        boolean isAs(Folk other) {
            for (int p = 0; p < many; p++) {
                if (states[p] != other.states[p] || cellNow(p) != other.cellNow(p)) {
                    return false;
                }
            }
            return true;
        }

        /** One by one: who goes later meets the others where they are by then. */
        void goOn(Room room) {
            for (int p = 0; p < many; p++) {
                if (states[p] == OUTSIDE) {
                    enter(p, room);
                } else if (states[p] == THERE) {
                    walk(p, room);
                }
            }
            second++;
        }

        private void enter(int p, Room room) {
            if (comes[p] > second + 1) {
                return;
            }
            // Who should leave by now is gone without having been there: he must not come any more.
            if (mustLeave(p)) {
                states[p] = GONE;
            } else if (isFree(homes[p], room)) {
                states[p] = THERE;
                cells[p] = homes[p];
            }
        }

        private void walk(int p, Room room) {
            if (mustLeave(p)) {
                states[p] = GONE;
                return;
            }
            int next = room.beside(cells[p], stepNow(p));
            if (next != NONE && isFree(next, room)) {
                cells[p] = next;
            }
        }

        private boolean mustLeave(int p) {
            return leaves[p] != NONE && leaves[p] <= second + 1;
        }

        private int stepNow(int p) {
            int round = stepMany[p];
            return round < 1 ? Room.REST : stepRows[p * MOST_STEPS + second % round];
        }
    }

    /** The sights of a scene: of one at a cell, of two beside each other, of nobody. */
    private static final class Sights {
        static final int AT_CELL = 0;
        static final int BESIDE = 1;
        static final int EMPTY = 2;

        int many = 0;
        final long[] names = new long[MOST_SIGHTS];
        final int[] kinds = new int[MOST_SIGHTS];
        final int[] ones = new int[MOST_SIGHTS];
        /** The cell, or the other person. */
        final int[] others = new int[MOST_SIGHTS];

        void takeOver(Sights other) {
            many = other.many;
            System.arraycopy(other.names, 0, names, 0, MOST_SIGHTS);
            System.arraycopy(other.kinds, 0, kinds, 0, MOST_SIGHTS);
            System.arraycopy(other.ones, 0, ones, 0, MOST_SIGHTS);
            System.arraycopy(other.others, 0, others, 0, MOST_SIGHTS);
        }

        int shownBy(Folk folk) {
            int set = 0;
            for (int i = 0; i < many; i++) {
                if (isShown(i, folk)) {
                    set |= 1 << i;
                }
            }
            return set;
        }

        boolean isShown(int i, Folk folk) {
            if (kinds[i] == EMPTY) {
                return folk.setIn(Folk.THERE) == 0;
            }
            int cell = folk.cellNow(ones[i]);
            if (cell == NONE) {
                return false;
            }
            if (kinds[i] == AT_CELL) {
                return cell == others[i];
            }
            int beside = folk.cellNow(others[i]);
            return beside != NONE && areBeside(cell, beside);
        }

        private static boolean areBeside(int a, int b) {
            int columns = Math.abs(Room.columnOf(a) - Room.columnOf(b));
            int rows = Math.abs(Room.rowOf(a) - Room.rowOf(b));
            return columns + rows == 1;
        }
    }

    /** RUNS as rows of acts; each end is an entry of its own, so that a jump is one look at its mate. */
    private static final class Runs {
        static final int MOST_ACTS = 30;
        static final int MOST_ENTRIES = 2 * MOST_ACTS;
        static final int BUY = 0;
        static final int SKIP = 1;
        static final int GIVE = 2;
        static final int ANY = 3;
        static final int STOP = 4;
        static final int LOOP = 5;
        static final int WHEN_SHOWS = 6;
        static final int WHEN_THERE = 7;
        static final int WHEN_BELOW = 8;
        static final int WHEN_ABOVE = 9;
        static final int WHEN_EQUAL = 10;
        static final int END = 11;

        boolean isTold = false;
        int acts = 0;
        int entries = 0;
        final int[] kinds = new int[MOST_ENTRIES];
        final int[] ones = new int[MOST_ENTRIES];
        final int[] others = new int[MOST_ENTRIES];
        /** Of a when or loop its end, of an end its beginning. */
        final int[] mates = new int[MOST_ENTRIES];

        void forget() {
            isTold = false;
            acts = 0;
            entries = 0;
        }

        void takeOver(Runs other) {
            isTold = other.isTold;
            acts = other.acts;
            entries = other.entries;
            System.arraycopy(other.kinds, 0, kinds, 0, MOST_ENTRIES);
            System.arraycopy(other.ones, 0, ones, 0, MOST_ENTRIES);
            System.arraycopy(other.others, 0, others, 0, MOST_ENTRIES);
            System.arraycopy(other.mates, 0, mates, 0, MOST_ENTRIES);
        }

        void add(int kind, int one, int other) {
            if (entries < MOST_ENTRIES) {
                kinds[entries] = kind;
                ones[entries] = one;
                others[entries] = other;
                mates[entries] = NONE;
                entries++;
            }
        }
    }

    /** A scene with all that became of it and its RUNS: what a mark keeps. */
    private static final class World {
        static final int MOST_FIRST_PRICE = 99;
        static final int MOST_RISE = 20;

        final Room room = new Room();
        final Folk folk = new Folk();
        final Sights sights = new Sights();
        final Runs runs = new Runs();
        int firstPrice = 0;
        int rise = 0;
        int buyers = 0;
        final long[] buyerNames = new long[MOST_BUYERS];
        final int[] purses = new int[MOST_BUYERS];
        /** By print, from 1 on: whose it is, or NONE. */
        final int[] owners = new int[KEPT_PRINTS + 1];

        World() {
            empty();
        }

        void empty() {
            room.wide = 0;
            room.deep = 0;
            room.walls = 0;
            folk.many = 0;
            folk.second = 0;
            sights.many = 0;
            runs.forget();
            firstPrice = 5;
            rise = 1;
            buyers = 0;
            Arrays.fill(owners, NONE);
        }

        void takeOver(World other) {
            room.takeOver(other.room);
            folk.takeOver(other.folk);
            sights.takeOver(other.sights);
            runs.takeOver(other.runs);
            firstPrice = other.firstPrice;
            rise = other.rise;
            buyers = other.buyers;
            System.arraycopy(other.buyerNames, 0, buyerNames, 0, MOST_BUYERS);
            System.arraycopy(other.purses, 0, purses, 0, MOST_BUYERS);
            System.arraycopy(other.owners, 0, owners, 0, KEPT_PRINTS + 1);
        }

        int priceAt(int print) {
            return firstPrice + (print - 1) * rise;
        }

        int costAhead(int many) {
            return many * priceAt(folk.second + 1) + many * (many - 1) / 2 * rise;
        }

        boolean canMake(int many) {
            return folk.second + many <= LAST_SECOND;
        }

        boolean canBuy(int buyer, int many) {
            return canMake(many) && costAhead(many) <= purses[buyer];
        }

        /** Makes the next print, for a buyer who can pay for it, or to be thrown away (NONE). */
        void makePrint(int buyer) {
            int print = folk.second + 1;
            if (buyer != NONE) {
                purses[buyer] -= priceAt(print);
                keepFor(print, buyer);
            }
            folk.goOn(room);
        }

        void keepFor(int print, int buyer) {
            if (isWithin(print, 1, KEPT_PRINTS)) {
                owners[print] = buyer;
            }
        }

        int ownerOf(int print) {
            return isWithin(print, 1, KEPT_PRINTS) ? owners[print] : NONE;
        }

        int printsOf(int buyer) {
            int found = 0;
            for (int print = 1; print <= KEPT_PRINTS; print++) {
                if (owners[print] == buyer) {
                    found++;
                }
            }
            return found;
        }

        int ownedPrints() {
            return KEPT_PRINTS - printsOf(NONE);
        }

        int latestPrintOf(int buyer) {
            for (int print = KEPT_PRINTS; print >= 1; print--) {
                if (owners[print] == buyer) {
                    return print;
                }
            }
            return NONE;
        }

        int allCoins() {
            int sum = 0;
            for (int b = 0; b < buyers; b++) {
                sum += purses[b];
            }
            return sum;
        }
    }

    /** Takes a text apart into tokens, one at a time, and keeps the fault at which the reading stopped. */
    private static final class Reader {
        /** All words that are no names, each with a blank behind it; a word's number is its place among them. */
        static final String WORDS = "scene by price rises wall person at comes leaves goes sight of with empty buyer coins east south west north rest buy skip give any when shows there loop end stop ";
        static final int SCENE = 0;
        static final int BY = 1;
        static final int PRICE = 2;
        static final int RISES = 3;
        static final int WALL = 4;
        static final int PERSON = 5;
        static final int AT = 6;
        static final int COMES = 7;
        static final int LEAVES = 8;
        static final int GOES = 9;
        static final int SIGHT = 10;
        static final int OF = 11;
        static final int WITH = 12;
        static final int EMPTY = 13;
        static final int BUYER = 14;
        static final int COINS = 15;
        static final int EAST = 16;
        static final int REST = 20;
        static final int BUY = 21;
        static final int SKIP = 22;
        static final int GIVE = 23;
        static final int ANY = 24;
        static final int WHEN = 25;
        static final int SHOWS = 26;
        static final int THERE = 27;
        static final int LOOP = 28;
        static final int END = 29;
        static final int STOP = 30;

        private static final int MOST_LETTERS = 8;
        private static final int MOST_DIGITS = 4;
        private static final int IS_END = 0;
        private static final int IS_WORD = 1;
        private static final int IS_NUMBER = 2;
        private static final int IS_SIGN = 3;
        private static final int IS_NOTHING = 4;

        final byte[] text = new byte[MOST_TAPE];
        private int size = 0;
        private int kind = IS_END;
        private int start = 0;
        private int stop = 0;
        /** Of a word its number among WORDS, or NONE; NONE for all that is no word. */
        int word = NONE;
        /** Of a word of at most eight letters the letters, five bits each: no two such words are alike. */
        long name = 0;
        /** Of a number its value, of a sign the sign. */
        int value = 0;
        /** Which of the names known it is, by the latest isNameOf. */
        int found = NONE;
        int faultKind = 0;
        int faultPlace = NONE;

        /** Begins to read the first n bytes anew. */
        void open(int n) {
            size = Math.min(n, MOST_TAPE);
            stop = 0;
            faultKind = 0;
            faultPlace = NONE;
            advance();
        }

        void advance() {
            start = stop;
            while (start < size && (text[start] == ' ' || text[start] == '\n')) {
                start++;
            }
            stop = start;
            word = NONE;
            name = 0;
            value = 0;
            if (start >= size) {
                kind = IS_END;
            } else if (isLetter(start)) {
                scanWord();
                word = wordNumber();
            } else if (isDigit(start)) {
                scanNumber();
            } else {
                scanSign();
            }
        }

        private boolean isLetter(int place) {
            return place < size && text[place] >= 'a' && text[place] <= 'z';
        }

        private boolean isDigit(int place) {
            return place < size && text[place] >= '0' && text[place] <= '9';
        }

        private void scanWord() {
            kind = IS_WORD;
            while (stop < size && isLetter(stop)) {
                if (stop - start < MOST_LETTERS) {
                    name = name * 32 + (text[stop] - 'a' + 1);
                }
                stop++;
            }
        }

        private void scanNumber() {
            while (stop < size && isDigit(stop)) {
                if (stop - start < MOST_DIGITS) {
                    value = value * 10 + (text[stop] - '0');
                }
                stop++;
            }
            kind = stop - start > MOST_DIGITS ? IS_NOTHING : IS_NUMBER;
        }

        private void scanSign() {
            value = text[start];
            kind = value == ';' || value == '<' || value == '>' || value == '=' ? IS_SIGN : IS_NOTHING;
            stop = start + 1;
        }

        private int wordNumber() {
            int number = 0;
            int place = start;
            boolean isSame = true;
            for (int i = 0; i < WORDS.length(); i++) {
                char letter = WORDS.charAt(i);
                if (letter != ' ') {
                    isSame = isSame && place < stop && text[place] == letter;
                    place++;
                } else if (isSame && place == stop) {
                    return number;
                } else {
                    number++;
                    place = start;
                    isSame = true;
                }
            }
            return NONE;
        }

        boolean isAtEnd() {
            return kind == IS_END;
        }

        /** Keeps a fault at the token read; what is no token at all is that and nothing worse. */
        boolean wrong(int fault) {
            faultKind = kind == IS_NOTHING ? 1 : fault;
            faultPlace = start;
            return false;
        }

        boolean passWord(int number) {
            if (word != number) {
                return wrong(2);
            }
            advance();
            return true;
        }

        /** Passes the sign behind which every part and act ends. */
        boolean passClose() {
            if (kind != IS_SIGN || value != ';') {
                return wrong(2);
            }
            advance();
            return true;
        }

        /** Whether a sign that compares stands here; it is left to be passed. */
        boolean isCompare() {
            return kind == IS_SIGN && value != ';' || wrong(2);
        }

        /** Whether such a number stands here; it is left to be passed, as a fault may still be at it. */
        boolean isNumber(int least, int most) {
            if (kind != IS_NUMBER) {
                return wrong(2);
            }
            return isWithin(value, least, most) || wrong(4);
        }

        boolean isName() {
            return kind == IS_WORD && word == NONE && stop - start <= MOST_LETTERS || wrong(2);
        }

        /** Whether one of these names stands here, which one is found; it is left to be passed. */
        boolean isNameOf(long[] names, int many) {
            if (!isName()) {
                return false;
            }
            found = indexOf(names, many, name);
            return found != NONE || wrong(3);
        }

        static int indexOf(long[] names, int many, long name) {
            for (int i = 0; i < many && i < names.length; i++) {
                if (names[i] == name) {
                    return i;
                }
            }
            return NONE;
        }
    }

    /** Reads a scene into a draft, so that the one ahead stays where there is a fault. */
    private static final class SceneReader {
        final World draft = new World();
        private final Reader in;
        private boolean hasPrice = false;
        private int cell = 0;

        SceneReader(Reader in) {
            this.in = in;
        }

        boolean reads(int n) {
            draft.empty();
            hasPrice = false;
            in.open(n);
            boolean isGood = true;
            // Every part has more than one byte, so there are never as many as bytes.
            for (int i = 0; i < MOST_TAPE && isGood && !in.isAtEnd(); i++) {
                switch (in.word) {
                    case Reader.SCENE:
                        isGood = readSize();
                        break;
                    case Reader.PRICE:
                        isGood = readPrice();
                        break;
                    case Reader.WALL:
                        isGood = readWall();
                        break;
                    case Reader.PERSON:
                        isGood = readPerson();
                        break;
                    case Reader.SIGHT:
                        isGood = readSight();
                        break;
                    case Reader.BUYER:
                        isGood = readBuyer();
                        break;
                    default:
                        isGood = in.wrong(2);
                }
            }
            if (isGood) {
                draft.folk.begin();
            }
            return isGood;
        }

        private boolean hasSize() {
            return draft.room.wide > 0;
        }

        private boolean readSize() {
            if (hasSize()) {
                return in.wrong(5);
            }
            in.advance();
            if (!in.isNumber(1, Room.MOST_WIDE)) {
                return false;
            }
            int wide = in.value;
            in.advance();
            if (!in.passWord(Reader.BY) || !in.isNumber(1, Room.MOST_DEEP)) {
                return false;
            }
            draft.room.wide = wide;
            draft.room.deep = in.value;
            in.advance();
            return in.passClose();
        }

        private boolean readPrice() {
            if (hasPrice) {
                return in.wrong(5);
            }
            in.advance();
            if (!in.isNumber(0, World.MOST_FIRST_PRICE)) {
                return false;
            }
            draft.firstPrice = in.value;
            in.advance();
            if (!in.passWord(Reader.RISES) || !in.isNumber(0, World.MOST_RISE)) {
                return false;
            }
            draft.rise = in.value;
            hasPrice = true;
            in.advance();
            return in.passClose();
        }

        /** Reads a cell; its row is left to be passed, as a fault may still be at it. */
        private boolean readCell() {
            if (!in.isNumber(0, draft.room.wide - 1)) {
                return false;
            }
            int column = in.value;
            in.advance();
            if (!in.isNumber(0, draft.room.deep - 1)) {
                return false;
            }
            cell = Room.cellOf(column, in.value);
            return true;
        }

        /** Reads a cell at which no wall and no person is told, and passes it. */
        private boolean passFreshCell() {
            if (!readCell()) {
                return false;
            }
            if (draft.room.isWall(cell) || draft.folk.isHome(cell)) {
                return in.wrong(5);
            }
            in.advance();
            return true;
        }

        private boolean readWall() {
            if (!hasSize()) {
                return in.wrong(2);
            }
            in.advance();
            if (!passFreshCell()) {
                return false;
            }
            draft.room.walls |= 1L << cell;
            return in.passClose();
        }

        private boolean isNewName() {
            if (!in.isName()) {
                return false;
            }
            boolean isTaken = Reader.indexOf(draft.folk.names, draft.folk.many, in.name) != NONE
                || Reader.indexOf(draft.sights.names, draft.sights.many, in.name) != NONE
                || Reader.indexOf(draft.buyerNames, draft.buyers, in.name) != NONE;
            return !isTaken || in.wrong(3);
        }

        private boolean readPerson() {
            Folk folk = draft.folk;
            if (!hasSize()) {
                return in.wrong(2);
            }
            if (folk.many >= MOST_PERSONS) {
                return in.wrong(6);
            }
            in.advance();
            if (!isNewName()) {
                return false;
            }
            int p = folk.many;
            folk.names[p] = in.name;
            in.advance();
            if (!in.passWord(Reader.AT) || !passFreshCell()) {
                return false;
            }
            folk.homes[p] = cell;
            if (!readTimes(p) || !in.passWord(Reader.GOES) || !readSteps(p)) {
                return false;
            }
            folk.many++;
            return in.passClose();
        }

        private boolean readTimes(int p) {
            Folk folk = draft.folk;
            folk.comes[p] = 0;
            folk.leaves[p] = NONE;
            if (in.word == Reader.COMES) {
                in.advance();
                if (!in.isNumber(0, 99)) {
                    return false;
                }
                folk.comes[p] = in.value;
                in.advance();
            }
            if (in.word == Reader.LEAVES) {
                in.advance();
                if (!in.isNumber(1, LAST_SECOND)) {
                    return false;
                }
                folk.leaves[p] = in.value;
                in.advance();
            }
            return true;
        }

        private boolean isStep() {
            return isWithin(in.word, Reader.EAST, Reader.REST);
        }

        private boolean readSteps(int p) {
            int many = 0;
            while (many < MOST_STEPS && isStep()) {
                draft.folk.stepRows[p * MOST_STEPS + many] = in.word - Reader.EAST;
                many++;
                in.advance();
            }
            draft.folk.stepMany[p] = many;
            if (isStep()) {
                return in.wrong(6);
            }
            return many > 0 || in.wrong(2);
        }

        private boolean readSight() {
            Sights sights = draft.sights;
            if (!hasSize()) {
                return in.wrong(2);
            }
            if (sights.many >= MOST_SIGHTS) {
                return in.wrong(6);
            }
            in.advance();
            if (!isNewName()) {
                return false;
            }
            int i = sights.many;
            sights.names[i] = in.name;
            in.advance();
            if (in.word == Reader.EMPTY) {
                in.advance();
                sights.kinds[i] = Sights.EMPTY;
                sights.ones[i] = NONE;
                sights.others[i] = NONE;
            } else if (!in.passWord(Reader.OF) || !readSeen(i)) {
                return false;
            }
            sights.many++;
            return in.passClose();
        }

        /** Reads who is to be seen, and where or with whom. */
        private boolean readSeen(int i) {
            Sights sights = draft.sights;
            if (!in.isNameOf(draft.folk.names, draft.folk.many)) {
                return false;
            }
            sights.ones[i] = in.found;
            in.advance();
            if (in.word == Reader.AT) {
                in.advance();
                if (!readCell()) {
                    return false;
                }
                sights.kinds[i] = Sights.AT_CELL;
                sights.others[i] = cell;
            } else {
                if (!in.passWord(Reader.WITH) || !in.isNameOf(draft.folk.names, draft.folk.many)) {
                    return false;
                }
                if (in.found == sights.ones[i]) {
                    return in.wrong(5);
                }
                sights.kinds[i] = Sights.BESIDE;
                sights.others[i] = in.found;
            }
            in.advance();
            return true;
        }

        private boolean readBuyer() {
            if (draft.buyers >= MOST_BUYERS) {
                return in.wrong(6);
            }
            in.advance();
            if (!isNewName()) {
                return false;
            }
            int b = draft.buyers;
            draft.buyerNames[b] = in.name;
            draft.purses[b] = 100;
            in.advance();
            if (in.word == Reader.COINS) {
                in.advance();
                if (!in.isNumber(0, MOST_COINS)) {
                    return false;
                }
                draft.purses[b] = in.value;
                in.advance();
            }
            draft.buyers++;
            return in.passClose();
        }
    }

    /** Reads RUNS for a scene into a draft, so that those ahead stay where there is a fault. */
    private static final class RunReader {
        private static final int MOST_DEPTH = 3;
        private static final int MOST_AT_ONCE = 20;
        private static final int MOST_ROUNDS = 99;

        final Runs draft = new Runs();
        private final Reader in;
        private final int[] open = new int[MOST_DEPTH];
        private int depth = 0;

        RunReader(Reader in) {
            this.in = in;
        }

        boolean reads(World world, int n) {
            draft.forget();
            depth = 0;
            in.open(n);
            boolean isGood = true;
            // Every act and end has more than one byte, so there are never as many as bytes.
            for (int i = 0; i < MOST_RUN_TEXT && isGood && !in.isAtEnd(); i++) {
                isGood = in.word == Reader.END ? readEnd() : mayBegin() && readAct(world);
                isGood = isGood && in.passClose();
            }
            draft.isTold = true;
            return isGood && (depth == 0 || in.wrong(2));
        }

        /** Whether one more act may begin here, by its word. */
        private boolean mayBegin() {
            boolean isDeeper = in.word == Reader.WHEN || in.word == Reader.LOOP;
            if (!isDeeper && in.word != Reader.STOP && !isWithin(in.word, Reader.BUY, Reader.ANY)) {
                return in.wrong(2);
            }
            if (draft.acts >= Runs.MOST_ACTS) {
                return in.wrong(6);
            }
            return !isDeeper || depth < MOST_DEPTH || in.wrong(7);
        }

        private boolean readEnd() {
            if (depth < 1) {
                return in.wrong(2);
            }
            depth--;
            int begin = open[depth];
            draft.mates[begin] = draft.entries;
            draft.add(Runs.END, 0, 0);
            draft.mates[draft.entries - 1] = begin;
            in.advance();
            return true;
        }

        /** Reads an act from its word on, up to the sign behind it. */
        private boolean readAct(World world) {
            int word = in.word;
            draft.acts++;
            in.advance();
            switch (word) {
                case Reader.BUY:
                    return readBuy(world);
                case Reader.SKIP:
                    return readCounted(Runs.SKIP, MOST_AT_ONCE);
                case Reader.GIVE:
                    return readGive(world);
                case Reader.WHEN:
                    openEntry();
                    return readTest(world);
                case Reader.LOOP:
                    openEntry();
                    return readCounted(Runs.LOOP, MOST_ROUNDS);
                case Reader.ANY:
                    draft.add(Runs.ANY, 0, 0);
                    return true;
                default:
                    draft.add(Runs.STOP, 0, 0);
                    return true;
            }
        }

        private void openEntry() {
            if (depth < MOST_DEPTH) {
                open[depth] = draft.entries;
                depth++;
            }
        }

        private boolean readBuy(World world) {
            if (!in.isNameOf(world.buyerNames, world.buyers)) {
                return false;
            }
            int buyer = in.found;
            in.advance();
            if (!in.isNumber(1, MOST_AT_ONCE)) {
                return false;
            }
            draft.add(Runs.BUY, buyer, in.value);
            in.advance();
            return true;
        }

        private boolean readCounted(int kind, int most) {
            if (!in.isNumber(1, most)) {
                return false;
            }
            draft.add(kind, in.value, 0);
            in.advance();
            return true;
        }

        private boolean readGive(World world) {
            if (!in.isNameOf(world.buyerNames, world.buyers)) {
                return false;
            }
            int giver = in.found;
            in.advance();
            if (!in.isNameOf(world.buyerNames, world.buyers)) {
                return false;
            }
            draft.add(Runs.GIVE, giver, in.found);
            in.advance();
            return true;
        }

        private boolean readTest(World world) {
            int word = in.word;
            if (word == Reader.COINS) {
                return readCoinTest(world);
            }
            boolean isShows = word == Reader.SHOWS;
            if (!isShows && word != Reader.THERE) {
                return in.wrong(2);
            }
            in.advance();
            boolean isKnown = isShows
                ? in.isNameOf(world.sights.names, world.sights.many)
                : in.isNameOf(world.folk.names, world.folk.many);
            if (!isKnown) {
                return false;
            }
            draft.add(isShows ? Runs.WHEN_SHOWS : Runs.WHEN_THERE, in.found, 0);
            in.advance();
            return true;
        }

        private boolean readCoinTest(World world) {
            in.advance();
            if (!in.isNameOf(world.buyerNames, world.buyers)) {
                return false;
            }
            int buyer = in.found;
            in.advance();
            if (!in.isCompare()) {
                return false;
            }
            int kind = in.value == '<' ? Runs.WHEN_BELOW : in.value == '>' ? Runs.WHEN_ABOVE : Runs.WHEN_EQUAL;
            in.advance();
            if (!in.isNumber(0, MOST_COINS)) {
                return false;
            }
            draft.add(kind, buyer, in.value);
            in.advance();
            return true;
        }
    }

    /** Lives the RUNS of a world, by draws from a seed, and counts what was done. */
    private static final class Runner {
        /** How many numbers lived() tells. */
        static final int TOLD = 5;
        private static final int MOST_ACTS_DONE = 300;
        // 300 loops of 99 empty rounds are the most ends that can be passed, far below this.
        private static final int MOST_TURNS = 1000000;

        int acts = 0;
        int missed = 0;
        int made = 0;
        int bought = 0;
        int paid = 0;
        boolean isCut = false;
        /** A world in which runs can be tried out, so that the real one stays as it is. */
        final World trial = new World();
        private int drawn = 0;
        private final int[] roundsLeft = new int[Runs.MOST_ENTRIES];

        void run(World world, int seed) {
            acts = 0;
            missed = 0;
            made = 0;
            bought = 0;
            paid = 0;
            isCut = false;
            drawn = seed;
            Runs runs = world.runs;
            int at = 0;
            for (int i = 0; i < MOST_TURNS && isWithin(at, 0, runs.entries - 1); i++) {
                if (runs.kinds[at] == Runs.END) {
                    at = behindEnd(runs, at);
                } else if (acts >= MOST_ACTS_DONE) {
                    isCut = true;
                    return;
                } else {
                    acts++;
                    at = behindAct(world, at);
                }
            }
        }

        private int behindEnd(Runs runs, int at) {
            int begin = runs.mates[at];
            if (!isWithin(begin, 0, runs.entries - 1) || runs.kinds[begin] != Runs.LOOP) {
                return at + 1;
            }
            roundsLeft[begin]--;
            return roundsLeft[begin] > 0 ? begin + 1 : at + 1;
        }

        private int behindAct(World world, int at) {
            Runs runs = world.runs;
            int one = runs.ones[at];
            int other = runs.others[at];
            switch (runs.kinds[at]) {
                case Runs.BUY:
                    buyAll(world, one, other);
                    return at + 1;
                case Runs.SKIP:
                    skipAll(world, one);
                    return at + 1;
                case Runs.GIVE:
                    handOn(world, one, other);
                    return at + 1;
                case Runs.ANY:
                    buyAll(world, drawBuyer(world.buyers), 1);
                    return at + 1;
                case Runs.STOP:
                    return runs.entries;
                case Runs.LOOP:
                    roundsLeft[at] = one;
                    return at + 1;
                default:
                    return isSo(world, at) ? at + 1 : runs.mates[at] + 1;
            }
        }

        private static boolean isSo(World world, int at) {
            int one = world.runs.ones[at];
            int other = world.runs.others[at];
            switch (world.runs.kinds[at]) {
                case Runs.WHEN_SHOWS:
                    return world.sights.isShown(one, world.folk);
                case Runs.WHEN_THERE:
                    return world.folk.cellNow(one) != NONE;
                case Runs.WHEN_BELOW:
                    return world.purses[one] < other;
                case Runs.WHEN_ABOVE:
                    return world.purses[one] > other;
                default:
                    return world.purses[one] == other;
            }
        }

        private void buyAll(World world, int buyer, int many) {
            if (buyer == NONE || !world.canBuy(buyer, many)) {
                missed++;
                return;
            }
            paid += world.costAhead(many);
            bought += many;
            made += many;
            for (int i = 0; i < many; i++) {
                world.makePrint(buyer);
            }
        }

        private void skipAll(World world, int many) {
            if (!world.canMake(many)) {
                missed++;
                return;
            }
            made += many;
            for (int i = 0; i < many; i++) {
                world.makePrint(NONE);
            }
        }

        private void handOn(World world, int giver, int taker) {
            int print = world.latestPrintOf(giver);
            if (print == NONE || giver == taker) {
                missed++;
                return;
            }
            world.keepFor(print, taker);
        }

        /** Without buyers there is none to be drawn, and no draw. */
        private int drawBuyer(int buyers) {
            if (buyers < 1) {
                return NONE;
            }
            drawn = (drawn * 3049 + 11273) % 65536;
            return drawn / 8 % buyers;
        }
    }

    /** Looks at what would be, on a copy of the folk, so that the scene stays as it is. */
    private static final class Ahead {
        static final int MOST_COVER = 12;
        private static final int SIGHT_SETS = 1 << MOST_SIGHTS;
        private static final int COUNT_SHIFT = MOST_COVER;
        private static final int COST_SHIFT = COUNT_SHIFT + 4;

        final Folk later = new Folk();
        /** By seconds ahead: the set of sights, as lookAtSights found it. */
        final int[] shown = new int[FAR + 1];
        /** By seconds ahead: the cell of a person, or NONE, as lookAtPerson found it. */
        final int[] way = new int[FAR + 1];
        /** By sets of sights: the best cover of just these so far, or NONE. */
        private final long[] best = new long[SIGHT_SETS];

        void goTo(World world, int seconds) {
            later.takeOver(world.folk);
            for (int k = 0; k < seconds; k++) {
                later.goOn(world.room);
            }
        }

        void lookAtSights(World world, int n) {
            later.takeOver(world.folk);
            shown[0] = world.sights.shownBy(later);
            for (int k = 1; k <= n && k <= FAR; k++) {
                later.goOn(world.room);
                shown[k] = world.sights.shownBy(later);
            }
        }

        void lookAtPerson(World world, int person, int n) {
            later.takeOver(world.folk);
            way[0] = later.cellNow(person);
            for (int k = 1; k <= n && k <= FAR; k++) {
                later.goOn(world.room);
                way[k] = later.cellNow(person);
            }
        }

        int firstShowing(World world, int sight) {
            later.takeOver(world.folk);
            for (int k = 1; k <= FAR; k++) {
                later.goOn(world.room);
                if (world.sights.isShown(sight, later)) {
                    return k;
                }
            }
            return NONE;
        }

        /**
         * The best of the next n prints that show all of these sights, as one number to be taken apart by
         * costIn and printsIn, or NONE. Cost, how many and set stand in it one above the other: each is a sum
         * over the prints, and the least number has the least cost, of these the fewest, then the least set.
         */
        long bestCover(World world, int sights, int n) {
            lookAtSights(world, n);
            Arrays.fill(best, NONE);
            best[0] = 0;
            for (int k = 1; k <= n && k <= MOST_COVER; k++) {
                long print = (long) world.priceAt(world.folk.second + k) << COST_SHIFT | 1L << COUNT_SHIFT | 1L << k - 1;
                addPrint(shown[k] & sights, print);
            }
            return best[sights];
        }

        /** From the largest set down: a print only leads to larger ones, so that none is taken twice. */
        private void addPrint(int shows, long print) {
            for (int seen = SIGHT_SETS - 1; seen >= 0; seen--) {
                int then = seen | shows;
                boolean isBetter = best[seen] != NONE && (best[then] == NONE || best[seen] + print < best[then]);
                if (isBetter) {
                    best[then] = best[seen] + print;
                }
            }
        }

        static int costIn(long cover) {
            return (int) (cover >> COST_SHIFT);
        }

        static int printsIn(long cover) {
            return (int) (cover & (1L << COUNT_SHIFT) - 1);
        }
    }

    /** Somebody alone in a room: by which steps he went, in how many ways, from where. */
    private static final class Tracks {
        static final int MOST_TOLD = 20;
        static final int MOST_PERIOD = 4;

        final int[] firstRow = new int[MOST_PERIOD];
        private final int[] row = new int[MOST_PERIOD];
        private final int[] told = new int[MOST_TOLD];
        private int toldMany = 0;
        private long[] ways = new long[Room.CELL_NUMBERS];
        private long[] nextWays = new long[Room.CELL_NUMBERS];

        /** Whether the numbers are cells without walls, or NONE, the first of them known; they are kept. */
        boolean load(long[] numbers, int n, Room room) {
            toldMany = Math.min(n, MOST_TOLD);
            for (int i = 0; i < toldMany; i++) {
                long number = numbers[i];
                if (number != NONE || i == 0) {
                    if (number < 0 || number >= Room.CELL_NUMBERS) {
                        return false;
                    }
                    int cell = (int) number;
                    if (!room.hasCell(Room.columnOf(cell), Room.rowOf(cell)) || room.isWall(cell)) {
                        return false;
                    }
                }
                told[i] = (int) number;
            }
            return true;
        }

        /** How many rows of p steps lead along what is told; the first of them is kept. */
        int countRows(Room room, int p) {
            int all = 1;
            for (int i = 0; i < p; i++) {
                all *= STEP_KINDS;
            }
            int found = 0;
            for (int number = 0; number < all; number++) {
                writeRow(number, p);
                if (leadsAlong(room, p)) {
                    if (found == 0) {
                        System.arraycopy(row, 0, firstRow, 0, MOST_PERIOD);
                    }
                    found++;
                }
            }
            return found;
        }

        /** The first step is the highest digit, so that counting up goes through the rows in their order. */
        private void writeRow(int number, int p) {
            int rest = number;
            for (int i = p - 1; i >= 0; i--) {
                row[i] = rest % STEP_KINDS;
                rest /= STEP_KINDS;
            }
        }

        private boolean leadsAlong(Room room, int p) {
            int cell = told[0];
            int k = 0;
            for (int i = 1; i < toldMany; i++) {
                cell = room.goneAlone(cell, row[k]);
                if (told[i] != NONE && told[i] != cell) {
                    return false;
                }
                k = k + 1 < p ? k + 1 : 0;
            }
            return true;
        }

        long countWays(Room room, int from, int to, int n) {
            Arrays.fill(ways, 0L);
            ways[from] = 1;
            for (int i = 0; i < n; i++) {
                goAllWays(room);
                long[] old = ways;
                ways = nextWays;
                nextWays = old;
            }
            return ways[to];
        }

        private void goAllWays(Room room) {
            Arrays.fill(nextWays, 0L);
            for (int cell = 0; cell < Room.CELL_NUMBERS; cell++) {
                for (int step = 0; step < STEP_KINDS && ways[cell] > 0; step++) {
                    nextWays[room.goneAlone(cell, step)] += ways[cell];
                }
            }
        }

        int originSet(Room room, int to, int step) {
            int set = 0;
            for (int r = 0; r < room.deep; r++) {
                for (int c = 0; c < room.wide; c++) {
                    int cell = Room.cellOf(c, r);
                    if (!room.isWall(cell) && room.goneAlone(cell, step) == to) {
                        set |= 1 << r * room.wide + c;
                    }
                }
            }
            return set;
        }
    }
}
