import java.util.ArrayList;
import java.util.HashMap;
import java.util.HashSet;
import java.util.List;
import java.util.Map;
import java.util.Set;

/**
 * A second reading of scenes and RUNS, by recursion over a list of tokens: their faults, and what they say, as a Model and
 * as trees of acts.
 */
final class Grammar {
    private static final Set<String> RESERVED = Set.of("scene", "by", "price", "rises", "wall", "person", "at", "comes",
        "leaves", "goes", "sight", "of", "with", "empty", "buyer", "coins", "east", "south", "west", "north", "rest", "buy",
        "skip", "give", "any", "when", "shows", "there", "loop", "end", "stop");
    private static final List<String> STEPS = List.of(Model.STEPS);

    private record Token(String text, int place) {
        boolean isWord() {
            return text.matches("[a-z]+");
        }

        boolean isNumber() {
            return text.matches("[0-9]{1,4}");
        }

        boolean isNothing() {
            return !text.isEmpty() && !isWord() && !isNumber() && !text.matches("[;<>=]");
        }

        boolean isName() {
            return text.matches("[a-z]{1,8}") && !RESERVED.contains(text);
        }
    }

    private static final class Fault extends RuntimeException {
        final int kind;
        final int place;

        Fault(int kind, int place) {
            super(null, null, false, false);
            this.kind = kind;
            this.place = place;
        }
    }

    /** What a name is of: p, s or b. */
    private final Map<String, Character> names = new HashMap<>();
    private final List<Token> tokens = new ArrayList<>();
    private int at = 0;
    private boolean isPriced = false;
    private final Set<Integer> told = new HashSet<>();
    private int acts = 0;
    private final Model model;
    private List<Model.Act> tree = List.of();

    /** To read a scene, and RUNS for it then. */
    Grammar() {
        model = new Model();
    }

    /** To read RUNS for a scene that is there. */
    Grammar(Model scene) {
        model = scene;
        model.guys.forEach(g -> names.put(g.name, 'p'));
        model.sights.forEach(s -> names.put(s.name(), 's'));
        model.buyers.forEach(b -> names.put(b, 'b'));
    }

    /** The scene read latest; it is whole only if that had no fault. */
    Model model() {
        return model;
    }

    /** The RUNS read latest without a fault. */
    List<Model.Act> tree() {
        return tree;
    }

    /** The fault of a scene and its place, 0 and -1 without one. */
    int[] scene(String text) {
        split(text);
        try {
            while (!now().text.isEmpty()) {
                part();
            }
        } catch (Fault f) {
            return new int[] {f.kind, f.place};
        }
        return new int[] {0, -1};
    }

    /** The fault of RUNS for the scene read ahead, and its place. */
    int[] runs(String text) {
        split(text);
        acts = 0;
        try {
            tree = acts(0);
        } catch (Fault f) {
            return new int[] {f.kind, f.place};
        }
        return new int[] {0, -1};
    }

    int acts() {
        return acts;
    }

    private void split(String text) {
        tokens.clear();
        at = 0;
        int i = 0;
        while (i < text.length()) {
            String rest = text.substring(i);
            String token = rest.replaceFirst("(?s)^([a-z]+|[0-9]+|.).*$", "$1");
            if (!token.equals(" ") && !token.equals("\n")) {
                tokens.add(new Token(token, i));
            }
            i += token.length();
        }
        tokens.add(new Token("", text.length()));
    }

    private Token now() {
        return tokens.get(at);
    }

    /** A token that must be such: what is no token is 1, any other one 2. */
    private Token need(boolean isSuch) {
        Token t = now();
        if (t.isNothing()) {
            throw new Fault(1, t.place);
        }
        if (!isSuch) {
            throw new Fault(2, t.place);
        }
        at++;
        return t;
    }

    private Token word(String text) {
        return need(now().text.equals(text));
    }

    private boolean perhaps(String text) {
        boolean is = now().text.equals(text);
        at += is ? 1 : 0;
        return is;
    }

    private int number(int least, int most) {
        Token t = need(now().isNumber());
        int value = Integer.parseInt(t.text);
        refuse(value < least || value > most, 4, t);
        return value;
    }

    private static void refuse(boolean is, int kind, Token t) {
        if (is) {
            throw new Fault(kind, t.place);
        }
    }

    private int many(char sort) {
        return (int) names.values().stream().filter(c -> c == sort).count();
    }

    private String newName() {
        Token t = need(now().isName());
        refuse(names.containsKey(t.text), 3, t);
        return t.text;
    }

    private String nameOf(char sort) {
        Token t = need(now().isName());
        refuse(names.getOrDefault(t.text, '-') != sort, 3, t);
        return t.text;
    }

    private int cell() {
        int column = number(0, model.wide - 1);
        return 10 * number(0, model.deep - 1) + column;
    }

    private int ownCell() {
        int cell = cell();
        refuse(!told.add(cell), 5, tokens.get(at - 1));
        return cell;
    }

    private void part() {
        Token head = need(Set.of("scene", "price", "wall", "person", "sight", "buyer").contains(now().text));
        String what = head.text;
        refuse(model.wide == 0 && (what.equals("wall") || what.equals("person") || what.equals("sight")), 2, head);
        refuse(what.equals("scene") && model.wide > 0 || what.equals("price") && isPriced, 5, head);
        refuse(what.equals("person") && many('p') == 5 || what.equals("sight") && many('s') == 6
            || what.equals("buyer") && many('b') == 4, 6, head);
        switch (what) {
            case "scene" -> {
                model.wide = number(1, 6);
                word("by");
                model.deep = number(1, 5);
            }
            case "price" -> {
                model.first = number(0, 99);
                word("rises");
                model.rises = number(0, 20);
                isPriced = true;
            }
            case "wall" -> model.walls.add(ownCell());
            case "person" -> person();
            case "sight" -> sight();
            default -> {
                model.buyers.add(newName());
                model.coins.add(perhaps("coins") ? number(0, 9999) : 100);
                names.put(model.buyers.get(model.buyers.size() - 1), 'b');
            }
        }
        word(";");
    }

    private void person() {
        Model.Guy g = new Model.Guy();
        g.name = newName();
        word("at");
        int home = ownCell();
        g.homeColumn = home % 10;
        g.homeRow = home / 10;
        g.column = g.homeColumn;
        g.row = g.homeRow;
        g.comes = perhaps("comes") ? number(0, 99) : 0;
        g.leaves = perhaps("leaves") ? number(1, 999) : -1;
        g.there = g.comes == 0;
        word("goes");
        do {
            Token t = need(STEPS.contains(now().text));
            refuse(g.steps.size() == 8, 6, t);
            g.steps.add(STEPS.indexOf(t.text));
        } while (STEPS.contains(now().text));
        names.put(g.name, 'p');
        model.guys.add(g);
    }

    private void sight() {
        String name = newName();
        if (perhaps("empty")) {
            model.sights.add(new Model.Sight(name, 2, -1, 0, 0, -1));
        } else {
            word("of");
            int one = guy(nameOf('p'));
            if (perhaps("at")) {
                int cell = cell();
                model.sights.add(new Model.Sight(name, 0, one, cell % 10, cell / 10, -1));
            } else {
                word("with");
                int other = guy(nameOf('p'));
                refuse(other == one, 5, tokens.get(at - 1));
                model.sights.add(new Model.Sight(name, 1, one, 0, 0, other));
            }
        }
        names.put(name, 's');
    }

    private int guy(String name) {
        return model.guys.stream().map(g -> g.name).toList().indexOf(name);
    }

    private int seen(String name) {
        return model.sights.stream().map(Model.Sight::name).toList().indexOf(name);
    }

    private int buyer() {
        return model.buyers.indexOf(nameOf('b'));
    }

    private List<Model.Act> acts(int depth) {
        List<Model.Act> all = new ArrayList<>();
        while (!now().text.isEmpty() && !(depth > 0 && now().text.equals("end"))) {
            all.add(act(depth));
        }
        return all;
    }

    private Model.Act act(int depth) {
        Token head = need(Set.of("buy", "skip", "give", "any", "when", "loop", "stop").contains(now().text));
        refuse(acts == 30, 6, head);
        boolean isDeeper = head.text.equals("when") || head.text.equals("loop");
        refuse(isDeeper && depth == 3, 7, head);
        acts++;
        Model.Act begun = switch (head.text) {
            case "buy" -> new Model.Act("buy", buyer(), number(1, 20), "", List.of());
            case "give" -> new Model.Act("give", buyer(), buyer(), "", List.of());
            case "skip" -> new Model.Act("skip", number(1, 20), 0, "", List.of());
            case "loop" -> new Model.Act("loop", number(1, 99), 0, "", List.of());
            case "when" -> test();
            default -> new Model.Act(head.text, 0, 0, "", List.of());
        };
        word(";");
        if (!isDeeper) {
            return begun;
        }
        List<Model.Act> body = acts(depth + 1);
        word("end");
        word(";");
        return new Model.Act(begun.word(), begun.one(), begun.two(), begun.compare(), body);
    }

    private Model.Act test() {
        Token t = need(Set.of("shows", "there", "coins").contains(now().text));
        return switch (t.text) {
            case "shows" -> new Model.Act("shows", seen(nameOf('s')), 0, "", List.of());
            case "there" -> new Model.Act("there", guy(nameOf('p')), 0, "", List.of());
            default -> {
                int buyer = buyer();
                String compare = need(Set.of("<", ">", "=").contains(now().text)).text;
                yield new Model.Act("coins", buyer, number(0, 9999), compare, List.of());
            }
        };
    }
}
