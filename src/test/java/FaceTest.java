import java.io.IOException;
import java.lang.reflect.Constructor;
import java.lang.reflect.Field;
import java.lang.reflect.Member;
import java.lang.reflect.Method;
import java.lang.reflect.Modifier;
import java.nio.file.Files;
import java.nio.file.Path;
import java.util.ArrayList;
import java.util.List;
import java.util.Set;
import java.util.TreeSet;
import java.util.regex.Matcher;
import java.util.regex.Pattern;

/** The face is just that of the document, and the file keeps to what of LANGUAGE.md can be counted. */
public final class FaceTest {
    private static final Check C = new Check();
    private static final Path SOURCE = Path.of("src/main/java/LaterPrints.java");
    private static final Path DOCUMENT = Path.of("../shared/DOC.md");

    public static void main(String[] args) throws IOException {
        face();
        members();
        words();
        sizes();
        loops();
        C.end();
    }

    private static String signature(Method m) {
        StringBuilder s = new StringBuilder(m.getReturnType().getName()).append(' ').append(m.getName()).append('(');
        for (Class<?> type : m.getParameterTypes()) {
            s.append(type.getName()).append(' ');
        }
        return s.append(')').toString();
    }

    private static void face() throws IOException {
        Set<String> want = new TreeSet<>();
        Matcher line = Pattern.compile("    public (int|long|boolean) (\\w+)\\(([^)]*)\\);").matcher(Files.readString(DOCUMENT));
        while (line.find()) {
            StringBuilder s = new StringBuilder(line.group(1)).append(' ').append(line.group(2)).append('(');
            for (String parameter : line.group(3).isEmpty() ? new String[0] : line.group(3).split(", ")) {
                s.append(parameter.split(" ")[0]).append(' ');
            }
            want.add(s.append(')').toString());
        }
        C.due("methods in the document", want.size(), 60);
        Set<String> got = new TreeSet<>();
        for (Method m : LaterPrints.class.getDeclaredMethods()) {
            if (Modifier.isPublic(m.getModifiers())) {
                got.add(signature(m));
            }
        }
        C.due("the face " + got, got.equals(want), true);
    }

    private static void isHidden(Member m) {
        C.due(m + " is private", Modifier.isPrivate(m.getModifiers()) || m.isSynthetic(), true);
    }

    private static void members() {
        Class<?> face = LaterPrints.class;
        C.due("public and final", face.getModifiers(), Modifier.PUBLIC | Modifier.FINAL);
        Set<String> open = new TreeSet<>();
        for (Method m : face.getDeclaredMethods()) {
            if (Modifier.isPublic(m.getModifiers())) {
                open.add(m.getName());
            } else {
                isHidden(m);
            }
        }
        for (Constructor<?> c : face.getDeclaredConstructors()) {
            C.due("one constructor", c.getParameterCount(), 0);
        }
        List<Class<?>> all = new ArrayList<>(List.of(face.getDeclaredClasses()));
        all.add(face);
        C.due("at most twelve classes", all.size() <= 12, true);
        for (Class<?> c : all) {
            boolean isInside = c != face;
            C.due(c + " is static", !isInside || Modifier.isStatic(c.getModifiers()), true);
            C.due(c + " is not public", !isInside || !Modifier.isPublic(c.getModifiers()), true);
            for (Method m : c.getDeclaredMethods()) {
                boolean isPublic = Modifier.isPublic(m.getModifiers());
                C.due(m + " has a name of its own", isPublic && !isInside || !open.contains(m.getName()), true);
                C.due(m + " has at most seven parameters", m.getParameterCount() <= 7, true);
            }
            int fields = 0;
            for (Field f : c.getDeclaredFields()) {
                boolean isStatic = Modifier.isStatic(f.getModifiers());
                fields += isStatic ? 0 : 1;
                C.due(f + " is final", !isStatic || Modifier.isFinal(f.getModifiers()), true);
                if (!isInside && !f.getName().equals("NONE")) {
                    isHidden(f);
                }
            }
            C.due(c + " has " + fields + " fields", fields <= 22, true);
        }
    }

    private static String bare() throws IOException {
        return Files.readString(SOURCE).replaceAll("(?s)/\\*.*?\\*/", "").replaceAll("//[^\n]*", "")
            .replaceAll("\"[^\"\n]*\"", "\"\"");
    }

    private static void words() throws IOException {
        String code = bare();
        String[] forbidden = {"throw", "throws", "try", "catch", "finally", "synchronized", "assert", "static \\{", "->", "::",
            "\\w+Exact", "Random", "System\\.(?!arraycopy)", "Thread", "Object", "hashCode", "toString", "protected", "package",
            "var", "double", "float", "import (?!java\\.util\\.Arrays;)"};
        for (String word : forbidden) {
            Matcher m = Pattern.compile("(?<!\\w)" + word + "(?!\\w)").matcher(code);
            C.due("no " + word, m.find(), false);
        }
        Matcher joined = Pattern.compile("\"\\s*\\+|\\+\\s*\"").matcher(code);
        C.due("no texts joined by +", joined.find(), false);
        C.due("signs of 1 to 127", Files.readString(SOURCE).chars().allMatch(c -> c >= 1 && c <= 127), true);
    }

    private static void sizes() throws IOException {
        String name = "";
        int begun = 0;
        int number = 0;
        for (String line : Files.readString(SOURCE).split("\n")) {
            number++;
            if (line.matches("( {4}| {8})(public|private|static|[a-z]).*\\) \\{")) {
                name = line.trim();
                begun = number;
            } else if (line.matches("( {4}| {8})\\}") && begun > 0) {
                C.due(name + " has " + (number - begun + 1) + " lines", number - begun + 1 <= 60, true);
                begun = 0;
            }
        }
    }

    /** The end of every loop can be seen from its own lines: something is compared with a bound. */
    private static void loops() throws IOException {
        Matcher loop = Pattern.compile("(?m)^.*\\b(while|for) \\(.*$").matcher(bare());
        int found = 0;
        while (loop.find()) {
            found++;
            C.due("a bound in: " + loop.group().trim(), loop.group().matches(".*[<>].*"), true);
        }
        C.due("loops", found > 40, true);
    }
}
