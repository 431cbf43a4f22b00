import java.util.ArrayList;
import java.util.HashMap;
import java.util.HashSet;
import java.util.List;
import java.util.Map;
import java.util.Set;

/** A second reading of scenes and RUNS, by recursion over a list of tokens, to compare the faults with. */
final class Grammar {
    private static final Set<String> RESERVED = Set.of("scene", "by", "price", "rises", "wall", "person", "at", "comes",
        "leaves", "goes", "sight", "of", "with", "empty", "buyer", "coins", "east", "south", "west", "north", "rest", "buy",
        "skip", "give", "any", "when", "shows", "there", "loop", "end", "stop");
    private static final Set<String> STEPS = Set.of("east", "south", "west", "north", "rest");

    private record Token(String text, int place) {
        boolean isWord() {
            return text.matches("[a-z]+");
        }

        boolean isNumber() {
            return text.matches("[0-9]{1,4}");
        }

        boolean isNothing() {
            return !text.isEmpty() && !isWord() && !isNumber() && !text.matches("[;<>=]");
        }

        boolean isName() {
            return text.matches("[a-z]{1,8}") && !RESERVED.contains(text);
        }
    }

    private static final class Fault extends RuntimeException {
        final int kind;
        final int place;

        Fault(int kind, int place) {
            super(null, null, false, false);
            this.kind = kind;
            this.place = place;
        }
    }

    /** What a name is of: p, s or b. */
    private final Map<String, Character> names = new HashMap<>();
    private final List<Token> tokens = new ArrayList<>();
    private int at = 0;
    private int wide = 0;
    private int deep = 0;
    private boolean isPriced = false;
    private final Set<Integer> told = new HashSet<>();
    private int acts = 0;

    /** The fault of a scene and its place, 0 and -1 without one. */
    int[] scene(String text) {
        split(text);
        try {
            while (!now().text.isEmpty()) {
                part();
            }
        } catch (Fault f) {
            return new int[] {f.kind, f.place};
        }
        return new int[] {0, -1};
    }

    /** The fault of RUNS for the scene read ahead, and its place. */
    int[] runs(String text) {
        split(text);
        acts = 0;
        try {
            acts(0);
        } catch (Fault f) {
            return new int[] {f.kind, f.place};
        }
        return new int[] {0, -1};
    }

    int acts() {
        return acts;
    }

    private void split(String text) {
        tokens.clear();
        at = 0;
        int i = 0;
        while (i < text.length()) {
            String rest = text.substring(i);
            String token = rest.replaceFirst("(?s)^([a-z]+|[0-9]+|.).*$", "$1");
            if (!token.equals(" ") && !token.equals("\n")) {
                tokens.add(new Token(token, i));
            }
            i += token.length();
        }
        tokens.add(new Token("", text.length()));
    }

    private Token now() {
        return tokens.get(at);
    }

    /** A token that must be such: what is no token is 1, any other one 2. */
    private Token need(boolean isSuch) {
        Token t = now();
        if (t.isNothing()) {
            throw new Fault(1, t.place);
        }
        if (!isSuch) {
            throw new Fault(2, t.place);
        }
        at++;
        return t;
    }

    private Token word(String text) {
        return need(now().text.equals(text));
    }

    private boolean perhaps(String text) {
        boolean is = now().text.equals(text);
        at += is ? 1 : 0;
        return is;
    }

    private int number(int least, int most) {
        Token t = need(now().isNumber());
        int value = Integer.parseInt(t.text);
        refuse(value < least || value > most, 4, t);
        return value;
    }

    private static void refuse(boolean is, int kind, Token t) {
        if (is) {
            throw new Fault(kind, t.place);
        }
    }

    private int many(char sort) {
        return (int) names.values().stream().filter(c -> c == sort).count();
    }

    private String newName() {
        Token t = need(now().isName());
        refuse(names.containsKey(t.text), 3, t);
        return t.text;
    }

    private String nameOf(char sort) {
        Token t = need(now().isName());
        refuse(names.getOrDefault(t.text, '-') != sort, 3, t);
        return t.text;
    }

    private int cell() {
        int column = number(0, wide - 1);
        return 10 * number(0, deep - 1) + column;
    }

    private void ownCell() {
        int cell = cell();
        refuse(!told.add(cell), 5, tokens.get(at - 1));
    }

    private void part() {
        Token head = need(Set.of("scene", "price", "wall", "person", "sight", "buyer").contains(now().text));
        String what = head.text;
        refuse(wide == 0 && (what.equals("wall") || what.equals("person") || what.equals("sight")), 2, head);
        refuse(what.equals("scene") && wide > 0 || what.equals("price") && isPriced, 5, head);
        refuse(what.equals("person") && many('p') == 5 || what.equals("sight") && many('s') == 6
            || what.equals("buyer") && many('b') == 4, 6, head);
        switch (what) {
            case "scene" -> {
                int first = number(1, 6);
                word("by");
                deep = number(1, 5);
                wide = first;
            }
            case "price" -> {
                number(0, 99);
                word("rises");
                number(0, 20);
                isPriced = true;
            }
            case "wall" -> ownCell();
            case "person" -> person();
            case "sight" -> sight();
            default -> {
                String name = newName();
                if (perhaps("coins")) {
                    number(0, 9999);
                }
                names.put(name, 'b');
            }
        }
        word(";");
    }

    private void person() {
        String name = newName();
        word("at");
        ownCell();
        if (perhaps("comes")) {
            number(0, 99);
        }
        if (perhaps("leaves")) {
            number(1, 999);
        }
        word("goes");
        int steps = 0;
        do {
            Token t = need(STEPS.contains(now().text));
            steps++;
            refuse(steps > 8, 6, t);
        } while (STEPS.contains(now().text));
        names.put(name, 'p');
    }

    private void sight() {
        String name = newName();
        if (!perhaps("empty")) {
            word("of");
            String one = nameOf('p');
            if (perhaps("at")) {
                cell();
            } else {
                word("with");
                String other = nameOf('p');
                refuse(other.equals(one), 5, tokens.get(at - 1));
            }
        }
        names.put(name, 's');
    }

    private void acts(int depth) {
        while (!now().text.isEmpty() && !(depth > 0 && now().text.equals("end"))) {
            act(depth);
        }
    }

    private void act(int depth) {
        Token head = need(Set.of("buy", "skip", "give", "any", "when", "loop", "stop").contains(now().text));
        refuse(acts == 30, 6, head);
        boolean isDeeper = head.text.equals("when") || head.text.equals("loop");
        refuse(isDeeper && depth == 3, 7, head);
        acts++;
        switch (head.text) {
            case "buy" -> {
                nameOf('b');
                number(1, 20);
            }
            case "skip" -> number(1, 20);
            case "give" -> {
                nameOf('b');
                nameOf('b');
            }
            case "loop" -> number(1, 99);
            case "when" -> test();
            default -> { }
        }
        word(";");
        if (isDeeper) {
            acts(depth + 1);
            word("end");
            word(";");
        }
    }

    private void test() {
        Token t = need(Set.of("shows", "there", "coins").contains(now().text));
        if (t.text.equals("coins")) {
            nameOf('b');
            need(Set.of("<", ">", "=").contains(now().text));
            number(0, 9999);
        } else {
            nameOf(t.text.equals("shows") ? 's' : 'p');
        }
    }
}
