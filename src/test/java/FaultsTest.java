import java.util.ArrayList;
import java.util.List;
import java.util.Random;
import java.util.regex.Matcher;
import java.util.regex.Pattern;

/** Scenes and RUNS by chance, some tokens of them changed: the faults are those of a second reading (promises 10 to 12). */
public final class FaultsTest {
    private static final Check C = new Check();
    private static final String[] TOKENS = {"scene", "by", "price", "rises", "wall", "person", "at", "comes", "leaves", "goes",
        "sight", "of", "with", "empty", "buyer", "coins", "east", "south", "west", "north", "rest", "buy", "skip", "give", "any",
        "when", "shows", "there", "loop", "end", "stop", ";", "<", ">", "=", "0", "1", "2", "5", "6", "7", "20", "21", "99", "100",
        "999", "1000", "9999", "10000", "00001", "0001", "pa", "pb", "sa", "sb", "ba", "bb", "abcdefgh", "abcdefghi", "a", "!", "A",
        "\t", "\u00e9"};
    /** Parts and acts that may be one too many, or told already, behind another one. */
    private static final String[] WHOLES = {"person pf at 0 0 goes rest;", "person pf at 1 0 comes 5 goes rest;", "sight sg empty;",
        "sight sh empty;sight si empty;", "buyer be;", "buyer bf;buyer bg;", "wall 0 0;", "wall 1 0;", "scene 2 by 2;",
        "price 1 rises 1;", "sight sz of pa with pa;", "sight sz of pa with pb;", "sight sz of pb at 0 0;", "wall 0 1;wall 0 1;",
        "person pf at 0 0 goes rest rest rest rest rest rest rest rest rest;", "loop 2;any;end;", "when there pa;end;",
        "any;any;any;any;any;any;any;any;any;any;", "loop 1;loop 1;loop 1;loop 1;end;end;end;end;", "loop 1;loop 1;loop 1;end;end;end;",
        "when coins ba<5;any;end;", "end;", "stop;skip 1;"};
    private static final int[] MET = new int[8];

    public static void main(String[] args) {
        Random r = new Random(900300);
        for (int round = 0; round < 20000; round++) {
            one(r);
        }
        for (int kind = 0; kind <= 7; kind++) {
            C.due("fault " + kind + " was met often enough: " + MET[kind], MET[kind] >= 50, true);
        }
        C.end();
    }

    private static void one(Random r) {
        StringBuilder text = new StringBuilder();
        Model m = Model.random(r, text);
        LaterPrints x = new LaterPrints();
        Grammar g = new Grammar();
        boolean isRuns = r.nextBoolean();
        String scene = isRuns ? text.toString() : changed(text.toString(), r);
        if (scene.length() > 900) {
            return;
        }
        compare(x, scene, g.scene(scene), Check.scene(x, scene));
        if (isRuns && x.status() == 0) {
            StringBuilder acts = new StringBuilder();
            m.randomActs(r, 12, 0, acts);
            String runs = changed(acts.toString(), r);
            if (runs.length() <= 300) {
                int[] fault = g.runs(runs);
                int got = Check.runs(x, runs);
                compare(x, runs, fault, got);
                C.due("acts of " + runs, got, fault[0] == 0 ? g.acts() : -1);
            }
        }
    }

    private static void compare(LaterPrints x, String text, int[] fault, int got) {
        MET[fault[0]]++;
        C.due("status of " + text, x.status(), fault[0] == 0 ? 0 : 9);
        C.due("fault of " + text, x.fault(0), fault[0]);
        C.due("place in " + text, x.fault(1), fault[1]);
        C.due("answer to " + text, got < 0, fault[0] != 0);
    }

    /** A text of which up to two tokens are changed, left out or doubled, with a part too many, or that ends too early. */
    private static String changed(String text, Random r) {
        List<String> tokens = new ArrayList<>();
        Matcher token = Pattern.compile("[a-z]+|[0-9]+|[^a-z0-9\\s]").matcher(text);
        while (token.find()) {
            tokens.add(token.group());
        }
        for (int i = r.nextInt(3); i > 0 && !tokens.isEmpty(); i--) {
            int place = r.nextInt(tokens.size());
            String other = r.nextInt(3) == 0 ? tokens.get(r.nextInt(tokens.size())) : TOKENS[r.nextInt(TOKENS.length)];
            switch (r.nextInt(5)) {
                case 0 -> tokens.remove(place);
                case 1 -> tokens.add(place, other);
                case 2 -> tokens.add(place, tokens.get(place));
                case 3 -> tokens.add(other);
                default -> tokens.set(place, other);
            }
        }
        if (r.nextInt(3) == 0) {
            int place = r.nextInt(tokens.size() + 1);
            while (place > 0 && !tokens.get(place - 1).equals(";")) {
                place--;
            }
            tokens.add(place, WHOLES[r.nextInt(WHOLES.length)]);
        }
        StringBuilder all = new StringBuilder();
        for (String t : tokens) {
            boolean isTight = all.length() == 0 || t.equals(";") || r.nextInt(12) == 0;
            all.append(isTight ? "" : r.nextInt(9) == 0 ? "\n " : " ").append(t);
        }
        if (r.nextInt(6) == 0) {
            all.setLength(r.nextInt(all.length() + 1));
        }
        return all.toString();
    }
}
