import java.io.IOException;
import java.nio.file.Files;
import java.nio.file.Path;
import java.util.ArrayList;
import java.util.HashMap;
import java.util.HashSet;
import java.util.List;
import java.util.Map;
import java.util.Random;
import java.util.Set;

/**
 * Promise 15: law() must tell each TEXT's FAULT as the document's grammar itself does. The grammar stands here as bare
 * productions, and the first byte with which no TEXT goes on is found by a recogniser for any grammar (Earley's), so
 * that nothing of the reader in the class is told here a second time.
 */
public final class GrammarTests {
    private static final Path DOCUMENT = Path.of("../shared/DOC.md");
    private static final int MOST_OPEN = 5;
    private static final int MOST_BYTES = 60;
    private static final int LAWS_OF_AN_OBJECT = 12;
    /** The words from which the productions below were made: if they change, so must these. */
    private static final String WORDS = "T: A { | A }. A: B { & B }. B: S, or S < S, S = S, S > S. S: P { + P, - P }. P: Q { * Q, / Q }. "
        + "Q: a NUMBER of 1 to 4 digits, a NAME, ! Q, ( T ). No blanks. At most 5 of ! and ( are open at once.";

    private static final Map<String, List<Rule>> RULES = new HashMap<>();
    private static CoinMeter meter;
    private static int texts = 0;
    private static int lawful = 0;
    private static int wrong = 0;

    private record Rule(String left, List<String> right) { }

    private record Item(Rule rule, int dot, int from) {
        boolean ended() {
            return dot == rule.right.size();
        }

        boolean wants(String part) {
            return !ended() && rule.right.get(dot).equals(part);
        }

        Item further() {
            return new Item(rule, dot + 1, from);
        }
    }

    public static void main(String[] args) throws IOException {
        if (!Files.readString(DOCUMENT).contains(WORDS)) {
            wrong++;
            System.out.println("the document's grammar is another one");
        }
        makeRules();
        all("", "1h!()+<&|", 4);
        all("", "1(!)", 6);
        all("", "1+", 7);
        for (int seed = 0; seed < 1500; seed++) {
            check(grown(new Random(seed)));
        }
        if (lawful < 500) {
            wrong++;
            System.out.println("only " + lawful + " texts are laws");
        }
        System.out.println(wrong == 0 ? texts + " texts are read as the grammar has them" : wrong + " faults");
        if (wrong != 0) {
            System.exit(1);
        }
    }

    /** A part's number tells how many of ! and ( are open around it. */
    private static void makeRules() {
        for (int open = 0; open <= MOST_OPEN; open++) {
            list("T" + open, "A" + open, "|");
            list("A" + open, "B" + open, "&");
            rule("B" + open, "S" + open);
            for (String sign : List.of("<", "=", ">")) {
                rule("B" + open, "S" + open, sign, "S" + open);
            }
            list("S" + open, "P" + open, "+", "-");
            list("P" + open, "Q" + open, "*", "/");
            rule("Q" + open, "NUMBER");
            rule("Q" + open, "NAME");
            if (open < MOST_OPEN) {
                rule("Q" + open, "!", "Q" + (open + 1));
                rule("Q" + open, "(", "T" + (open + 1), ")");
            }
        }
        rule("NUMBER", "DIGIT");
        rule("NUMBER", "DIGIT", "DIGIT");
        rule("NUMBER", "DIGIT", "DIGIT", "DIGIT");
        rule("NUMBER", "DIGIT", "DIGIT", "DIGIT", "DIGIT");
        for (String digit : "0123456789".split("")) {
            rule("DIGIT", digit);
        }
        for (String name : "hdukocn".split("")) {
            rule("NAME", name);
        }
    }

    private static void list(String left, String part, String... signs) {
        rule(left, part);
        for (String sign : signs) {
            rule(left, left, sign, part);
        }
    }

    private static void rule(String left, String... right) {
        RULES.computeIfAbsent(left, k -> new ArrayList<>()).add(new Rule(left, List.of(right)));
    }

    /** The FAULT, or -1. */
    private static int fault(String text) {
        List<List<Item>> rows = new ArrayList<>();
        List<Item> row = new ArrayList<>();
        RULES.get("T0").forEach(each -> row.add(new Item(each, 0, 0)));
        List<Item> last = row;
        for (int at = 0; at <= text.length(); at++) {
            rows.add(last);
            boolean whole = complete(rows, at);
            if (at == text.length()) {
                return whole ? -1 : at;
            }
            List<Item> next = new ArrayList<>();
            for (Item each : last) {
                if (each.wants(text.substring(at, at + 1))) {
                    next.add(each.further());
                }
            }
            if (next.isEmpty()) {
                return at;
            }
            last = next;
        }
        return -1;
    }

    /** Adds all that follows from a row's items; whether a whole TEXT ends there. */
    private static boolean complete(List<List<Item>> rows, int at) {
        List<Item> row = rows.get(at);
        Set<Item> seen = new HashSet<>(row);
        boolean whole = false;
        for (int i = 0; i < row.size(); i++) {
            Item item = row.get(i);
            List<Item> more = new ArrayList<>();
            if (item.ended()) {
                whole |= item.from == 0 && item.rule.left.equals("T0");
                for (Item waiting : rows.get(item.from)) {
                    if (waiting.wants(item.rule.left)) {
                        more.add(waiting.further());
                    }
                }
            } else {
                for (Rule each : RULES.getOrDefault(item.rule.right.get(item.dot), List.of())) {
                    more.add(new Item(each, 0, at));
                }
            }
            for (Item each : more) {
                if (seen.add(each)) {
                    row.add(each);
                }
            }
        }
        return whole;
    }

    private static void all(String begun, String signs, int left) {
        check(begun);
        for (int i = 0; i < signs.length() && left > 0; i++) {
            all(begun + signs.charAt(i), signs, left - 1);
        }
    }

    /** Mostly goes on as some TEXT does, so that what is wrong, if anything, stands far behind. */
    private static String grown(Random random) {
        String signs = "0123456789hdukocn!!!((((((()))))))+-*/<=>&|" + (random.nextInt(3) == 0 ? " x\u00ff\0" : "");
        int length = random.nextInt(random.nextInt(8) == 0 ? MOST_BYTES + 1 : 25);
        boolean careful = random.nextInt(4) != 0;
        String text = "";
        for (int i = 0; i < 4 * MOST_BYTES && text.length() < length; i++) {
            String more = text + signs.charAt(random.nextInt(signs.length()));
            int fault = careful ? fault(more) : -1;
            text = fault < 0 || fault == more.length() || random.nextInt(60) == 0 ? more : text;
        }
        return random.nextBoolean() ? ended(text) : text;
    }

    /** With what is lacking at the end of a TEXT that ends too early, if there is room. */
    private static String ended(String text) {
        String whole = text;
        for (int i = 0; i <= MOST_OPEN + 1 && whole.length() < MOST_BYTES && fault(whole) == whole.length(); i++) {
            whole += fault(whole + ")") == whole.length() ? "1" : ")";
        }
        return whole;
    }

    private static void check(String text) {
        if (texts % LAWS_OF_AN_OBJECT == 0) {
            meter = new CoinMeter();
        }
        texts++;
        for (int i = 0; i < text.length(); i += 8) {
            int n = Math.min(8, text.length() - i);
            long word = 0;
            for (int j = 0; j < n; j++) {
                word |= (text.charAt(i + j) & 255L) << (8 * j);
            }
            meter.feed(word, n);
        }
        int laws = meter.told(2);
        int due = fault(text) < 0 ? laws : -10 - fault(text);
        lawful += due == laws ? 1 : 0;
        int got = meter.law(0, 0);
        if (got != due) {
            wrong++;
            System.out.println("[" + text + "] answered " + got + ", due is " + due);
        }
    }
}
