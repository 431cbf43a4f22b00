import java.lang.reflect.Method;
import java.util.Arrays;
import java.util.HashMap;
import java.util.HashSet;
import java.util.Map;
import java.util.Random;
import java.util.Set;

/**
 * All calls of the face in any order, with numbers that can and can't be: answer, STATUS, FRACTION and FAULT are those of
 * the second writing, SlowPrints, behind every single call (all promises at once).
 */
public final class WholeTest {
    private static final Check C = new Check();

    /** Each call with what its numbers are: things of the scene, or from .. to which they can be. */
    private static final String[] CALLS = {
        "tray tray 0..3 0..60", "write tray 0..60 number", "read tray 0..60", "pour tray 0..20 tray 0..20 0..20",
        "feed any any any any any", "scene tape", "runs tape", "fault 0..1", "told 0..13", "who column row", "wall column row",
        "person person 0..4", "stepOf person 0..7", "sight sight 0..2", "coins buyer", "owner print", "prints buyer",
        "buy buyer 1..99", "skip 1..99", "give print buyer", "back buyer print", "earn buyer 1..999", "price 0..99 0..20",
        "build column row is", "teach person 0..7 0..4", "place person column row", "priceOf 1..999", "costOf 0..200",
        "placeIn person 0..200", "whoIn column row 0..200", "showsIn 0..200", "first sight", "cost sight", "often sight 1..200",
        "longest sight 1..200", "gone person", "again", "stays person 1..200", "cover set 1..12", "coverSet set 1..12",
        "share 1..60 0..1", "turns sight 1..9", "turnsFirst sight 1..9", "comesBack 0..12 0..16", "afford buyer", "sees buyer",
        "steps tray 1..20 1..4", "stepsAt tray 1..20 1..4 0..3", "period tray 1..20", "copyWay person tray 1..20",
        "between column row column row 0..12", "origin column row 0..4", "live 0..9999", "lived 0..4", "mean 0..9999 1..20",
        "mark", "undo"};
    private static final Map<String, Method> FAST = new HashMap<>();
    private static final Map<String, Method> SLOW = new HashMap<>();
    private static final Set<String> MET = new HashSet<>();

    private final Random r;
    private final LaterPrints x = new LaterPrints();
    private final SlowPrints y = new SlowPrints();
    /** Half of the objects keep to small numbers, so that a scene is not left behind by a few calls. */
    private final boolean isNear;

    private WholeTest(int seed) {
        r = new Random(seed);
        isNear = r.nextBoolean();
    }

    public static void main(String[] args) throws Exception {
        for (Method m : LaterPrints.class.getMethods()) {
            FAST.put(m.getName(), m);
        }
        for (Method m : SlowPrints.class.getDeclaredMethods()) {
            // Helpers that share a name with a call are private.
            if (!java.lang.reflect.Modifier.isPrivate(m.getModifiers())) {
                SLOW.put(m.getName(), m);
            }
        }
        C.due("calls, and status, top, bottom", CALLS.length + 3, 60);
        for (int seed = 0; seed < 600; seed++) {
            new WholeTest(seed).oneObject();
        }
        metAll();
        C.end();
    }

    private void oneObject() throws Exception {
        bargain();
        putScene();
        for (int i = 0; i < 400; i++) {
            switch (r.nextInt(60)) {
                case 0 -> putScene();
                case 1, 2 -> putRuns();
                case 3 -> both("tray", r.nextInt(4), r.nextInt(4), r.nextInt(61));
                case 4 -> fillTray();
                default -> oneCall(CALLS[r.nextInt(CALLS.length)].split(" "));
            }
        }
    }

    private void oneCall(String[] call) throws Exception {
        Object[] values = new Object[call.length - 1];
        for (int i = 0; i < values.length; i++) {
            values[i] = value(call[i + 1]);
        }
        both(call[0], values);
    }

    private Object value(String kind) {
        Model m = y.model();
        switch (kind) {
            case "is":
                return r.nextBoolean();
            case "any":
                return r.nextInt();
            case "number":
                return r.nextInt(4) == 0 ? r.nextLong() : (long) r.nextInt(3 + 10 * m.deep) - 2;
            case "tape":
                return number(0, (int) y.onTape());
            case "tray":
                return number(0, 3);
            case "column":
                return number(0, m.wide - 1);
            case "row":
                return number(0, m.deep - 1);
            case "person":
                return number(0, m.guys.size() - 1);
            case "sight":
                return number(0, m.sights.size() - 1);
            case "set":
                return number(0, (1 << m.sights.size()) - 1);
            case "buyer":
                return number(0, m.buyers.size() - 1);
            case "print":
                return number(1, r.nextInt(4) == 0 ? 121 : m.second);
            default:
                String[] range = kind.split("\\.\\.");
                int least = Integer.parseInt(range[0]);
                int most = Integer.parseInt(range[1]);
                return isNear && r.nextInt(8) > 0 ? least + r.nextInt(Math.min(9, most - least + 1)) : number(least, most);
        }
    }

    /** Mostly a number that can be, at times one at an end, just beyond it, or far away. */
    private int number(int least, int most) {
        switch (r.nextInt(24)) {
            case 0:
                return least - 1;
            case 1:
                return most + 1;
            case 2:
                return least;
            case 3:
                return most;
            case 4:
                int[] far = {Integer.MIN_VALUE, Integer.MAX_VALUE, r.nextInt(), -r.nextInt(100), r.nextInt(20000)};
                return far[r.nextInt(far.length)];
            default:
                return most < least ? least : least + r.nextInt(most - least + 1);
        }
    }

    private void both(String name, Object... values) throws Exception {
        long got = asLong(FAST.get(name).invoke(x, values));
        String what = name + Arrays.toString(values);
        C.due(what, got, asLong(SLOW.get(name).invoke(y, values)));
        C.due(what + ", status", x.status(), y.status());
        C.due(what + ", top", x.top(), y.top());
        C.due(what + ", bottom", x.bottom(), y.bottom());
        C.due(what + ", fault", x.fault(0), y.fault(0));
        C.due(what + ", place", x.fault(1), y.fault(1));
        MET.add(name + " " + x.status());
    }

    private static long asLong(Object answer) {
        return answer instanceof Boolean is ? is ? 1 : 0 : ((Number) answer).longValue();
    }

    private void put(String name, String text) throws Exception {
        for (int i = 0; i < text.length(); i += 20) {
            Object[] five = {0, 0, 0, 0, 0};
            for (int k = 0; k < 20; k++) {
                int sign = i + k < text.length() ? text.charAt(i + k) : ' ';
                five[k / 4] = (int) five[k / 4] << 8 | sign;
            }
            both("feed", five);
        }
        both(name, text.length());
    }

    private void putScene() throws Exception {
        // What other calls have left on the tape would be read ahead of the text.
        both("runs", 0);
        StringBuilder text = new StringBuilder();
        Model.random(r, text);
        put("scene", text.toString());
    }

    private void putRuns() throws Exception {
        both("runs", 0);
        StringBuilder text = new StringBuilder();
        y.model().randomActs(r, 9, 0, text);
        put("runs", text.toString());
    }

    /** A tray that tells somebody's way, some of it not known: else there would hardly ever be one. */
    private void fillTray() throws Exception {
        int tray = r.nextInt(4);
        both("tray", tray, r.nextInt(4), 20);
        both("copyWay", r.nextInt(5), tray, 20);
        for (int i = r.nextInt(12); i > 0; i--) {
            both("write", tray, 1 + r.nextInt(19), -1L);
        }
        both("period", tray, 1 + r.nextInt(20));
        int p = 1 + r.nextInt(4);
        both("steps", tray, 1 + r.nextInt(20), p);
        both("stepsAt", tray, 1 + r.nextInt(20), p, r.nextInt(p));
    }

    /** A lively scene whose prints cost nearly nothing: else several covers are hardly ever as cheap as each other. */
    private void bargain() throws Exception {
        both("runs", 0);
        StringBuilder text = new StringBuilder("price " + r.nextInt(2) + " rises " + r.nextInt(2) + ";scene 2 by 2;");
        for (String person : new String[] {"a at 0 0", "b at 1 1"}) {
            text.append("person ").append(person).append(" goes");
            for (int k = 2 + r.nextInt(6); k > 0; k--) {
                text.append(' ').append(Model.STEPS[r.nextInt(5)]);
            }
            text.append(';');
        }
        for (String sight : new String[] {"s of a", "t of b", "u of a"}) {
            text.append("sight ").append(sight).append(" at ").append(r.nextInt(2)).append(' ').append(r.nextInt(2)).append(';');
        }
        put("scene", text.append("sight v of a with b;").toString());
        for (int set = 0; set < 16; set++) {
            both("coverSet", set, 3 + r.nextInt(10));
            both("cover", set, 3 + r.nextInt(10));
        }
    }

    /** Every STATUS that the document tells of a call was met, so that the comparing was of something. */
    private static void metAll() {
        String[] told = {"tray 01", "write 0123", "read 0123", "pour 01238", "scene 019", "runs 019", "told 01", "who 016",
            "wall 01", "person 016", "stepOf 016", "sight 016", "coins 01", "owner 016", "prints 01", "buy 017", "skip 014",
            "give 017", "back 017", "earn 017", "price 01", "build 017", "teach 01", "place 017", "priceOf 01", "costOf 01",
            "placeIn 016", "whoIn 016", "showsIn 01", "first 016", "cost 016", "often 01", "longest 01", "gone 016", "again 06",
            "stays 01", "cover 016", "coverSet 016", "share 01", "turns 016", "turnsFirst 016", "comesBack 01", "afford 01",
            "sees 01", "steps 01235", "stepsAt 012356", "period 012356", "copyWay 0123", "between 017", "origin 017", "live 016",
            "lived 016", "mean 016", "mark 04", "undo 06"};
        int many = 0;
        for (String call : told) {
            String name = call.split(" ")[0];
            for (char status : call.split(" ")[1].toCharArray()) {
                C.due(name + " with status " + status + " was met", MET.contains(name + " " + status), true);
                many++;
            }
        }
        long withStatus = MET.stream().filter(m -> !m.startsWith("feed") && !m.startsWith("fault")).count();
        C.due("no other status was met", withStatus, many);
    }
}
