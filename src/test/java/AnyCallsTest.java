import java.lang.reflect.InvocationTargetException;
import java.lang.reflect.Method;
import java.lang.reflect.Modifier;
import java.util.ArrayList;
import java.util.Arrays;
import java.util.Comparator;
import java.util.List;
import java.util.Random;

/**
 * Calls by chance, with arguments that can and can't be: none throws, every STATUS is one of the document's, what is
 * refused answers NONE or false, and an object that never heard the refused calls is the same (==== 5).
 */
public final class AnyCallsTest {
    private static final Check C = new Check();
    private static final int[] EDGES = {-1, 0, 1, 2, 3, 4, 5, 6, 8, 9, 10, 12, 13, 15, 16, 17, 20, 21, 50, 60, 61, 63, 64, 99,
        100, 119, 120, 121, 199, 200, 201, 299, 300, 301, 899, 900, 901, 998, 999, 1000, 9980, 9999, 10000, 65535, 65536,
        Integer.MAX_VALUE, Integer.MIN_VALUE, Integer.MIN_VALUE + 1, Integer.MAX_VALUE - 1};
    private static final List<String> WITHOUT_STATUS = List.of("status", "top", "bottom", "feed", "fault");

    public static void main(String[] args) throws Exception {
        List<Method> face = new ArrayList<>();
        for (Method m : LaterPrints.class.getDeclaredMethods()) {
            if (Modifier.isPublic(m.getModifiers())) {
                face.add(m);
            }
        }
        face.sort(Comparator.comparing(Method::getName));
        C.due("methods of the face", face.size(), 60);
        Random r = new Random(61);
        for (int round = 0; round < 300; round++) {
            oneObject(face, r);
        }
        C.end();
    }

    private static void oneObject(List<Method> face, Random r) throws Exception {
        LaterPrints x = new LaterPrints();
        LaterPrints twin = new LaterPrints();
        for (int i = 0; i < 512; i++) {
            if (r.nextInt(40) == 0) {
                putText(x, twin, r);
                continue;
            }
            Method m = face.get(r.nextInt(face.size()));
            Object[] values = values(m, r);
            boolean hasStatus = !WITHOUT_STATUS.contains(m.getName());
            Object got = call(x, m, values);
            String what = m.getName() + Arrays.toString(values);
            if (!hasStatus || x.status() == 0 || x.status() == 9) {
                Object other = call(twin, m, values);
                // The twin's status may be an older one, as it did not hear what was refused.
                if (!m.getName().equals("status")) {
                    C.due(what + ": twin", other.equals(got), true);
                }
            } else {
                refused(what, got, x.status());
            }
        }
        C.due("all is alike", all(x).equals(all(twin)), true);
    }

    private static void refused(String what, Object got, int status) {
        C.due(what + ": status " + status, status >= 1 && status <= 9, true);
        boolean isNone = got instanceof Boolean b ? !b : ((Number) got).longValue() == LaterPrints.NONE;
        C.due(what + ": NONE", isNone, true);
    }

    private static Object call(LaterPrints x, Method m, Object[] values) throws Exception {
        try {
            return m.invoke(x, values);
        } catch (InvocationTargetException e) {
            C.due(m.getName() + Arrays.toString(values) + " threw " + e.getCause(), 1, 0);
            return 0;
        }
    }

    private static Object[] values(Method m, Random r) {
        Class<?>[] types = m.getParameterTypes();
        Object[] values = new Object[types.length];
        for (int i = 0; i < values.length; i++) {
            int v = r.nextInt(4) == 0 ? EDGES[r.nextInt(EDGES.length)] : r.nextInt(7);
            if (types[i] == boolean.class) {
                values[i] = r.nextBoolean();
            } else if (types[i] == long.class) {
                values[i] = r.nextBoolean() ? (long) v : r.nextLong();
            } else {
                values[i] = v;
            }
        }
        return values;
    }

    private static void putText(LaterPrints x, LaterPrints twin, Random r) {
        StringBuilder text = new StringBuilder();
        Model m = Model.random(r, text);
        boolean isRuns = r.nextBoolean();
        if (isRuns) {
            put(x, twin, text.toString(), false);
            text.setLength(0);
            m.randomActs(r, 12, 0, text);
        }
        // Some texts lose or change a sign, so that faults are met everywhere.
        if (r.nextInt(3) == 0 && text.length() > 0) {
            int place = r.nextInt(text.length());
            text.setCharAt(place, " ;<>=a1!9\n".charAt(r.nextInt(10)));
        }
        if (r.nextInt(4) == 0 && text.length() > 0) {
            text.setLength(r.nextInt(text.length()));
        }
        put(x, twin, text.toString(), isRuns);
    }

    private static void put(LaterPrints x, LaterPrints twin, String text, boolean isRuns) {
        // Empties the tape, on which other calls may have left something.
        x.scene(0);
        twin.scene(0);
        int a = isRuns ? Check.runs(x, text) : Check.scene(x, text);
        int b = isRuns ? Check.runs(twin, text) : Check.scene(twin, text);
        C.due("texts", a, b);
        C.due("texts", x.status(), twin.status());
        if (x.status() == 9) {
            C.due("a fault's kind", x.fault(0) >= 1 && x.fault(0) <= 7, true);
            C.due("a fault's place", x.fault(1) >= 0 && x.fault(1) <= text.length(), true);
        }
    }

    private static String all(LaterPrints x) {
        StringBuilder s = new StringBuilder(Check.state(x));
        s.append(" tape ").append(x.feed(1, 2, 3, 4, 5)).append(" live ").append(x.live(17)).append(' ').append(x.lived(0));
        for (int i = 0; i < 4; i++) {
            s.append(" undo ").append(x.undo()).append(' ').append(x.told(5)).append(' ').append(x.told(12));
        }
        return s.toString();
    }
}
