import java.util.ArrayList;
import java.util.LinkedHashSet;
import java.util.List;
import java.util.Random;

/**
 * "FAULT of a text: the place of the first byte of the first WORD, NUMBER, sign at which no text can go on (its end, if more
 * is wanted ..)": random texts, and where all ways through the grammar, gone along side by side, end.
 */
final class FaultsTest {
    private static final Due DUE = new Due("FaultsTest");
    /** Each line: a name, then its ways; # stands for nothing. Names that are no lines are tokens. */
    private static final String[] GRAMMAR = {
        "TEXT: RULE | RULE ; TEXT",
        "RULE: EFFECT WHO ACT THING IF MUST",
        "EFFECT: yes | no | maybe",
        "WHO: any | own | PERSON | GROUP",
        "ACT: r | w | x | d | g | o | all",
        "THING: any | THINGS | THINGS /",
        "IF: # | if CONDITION",
        "MUST: # | must DUTY",
        "CONDITION: PART | PART or CONDITION",
        "PART: SUCH | SUCH and PART",
        "SUCH: not SUCH | ( CONDITION ) | known FEATURE | SUM in FEATURE | SUM SIGN SUM",
        "SIGN: < | <= | = | <> | >= | >",
        "SUM: PRODUCT | PRODUCT + SUM | PRODUCT - SUM",
        "PRODUCT: TERM | TERM * PRODUCT | TERM / PRODUCT | TERM % PRODUCT",
        "TERM: - TERM | NUMBER | now | age | size FEATURE | FEATURE | FEATURE [ SUM ] | ( SUM )",
        "FEATURE: me . LETTER | it . LETTER"};
    private static final String[] TOKENS = {
        "yes", "no", "maybe", "any", "own", "p0", "p3", "g1", "g2", "t0", "t2", "r", "all", "w", "if", "must", "not", "(", ")", "[", "]",
        "known", "in", "me", "it", ".", "a", "i", "1", "2.5", "0", "3", "+", "-", "*", "/", "%", "<", "<=", "=", "<>", ">=", ">", ";",
        "now", "age", "size", "and", "or", "1234567890", "1.1234567", "$"};

    /** A way of the grammar, gone as far as a dot, from a token on. */
    private record Item(int line, int way, int dot, int from) {
    }

    private final Random random;
    private final List<String> names = new ArrayList<>();
    private final List<List<List<String>>> ways = new ArrayList<>();

    private FaultsTest(long seed) {
        random = new Random(seed);
        for (String line : GRAMMAR) {
            names.add(line.substring(0, line.indexOf(':')));
            List<List<String>> lineWays = new ArrayList<>();
            for (String way : line.substring(line.indexOf(':') + 2).split(" \\| ")) {
                lineWays.add(way.equals("#") ? List.of() : List.of(way.split(" ")));
            }
            ways.add(lineWays);
        }
    }

    public static void main(String[] args) {
        FaultsTest test = new FaultsTest(41);
        for (int i = 0; i < 3000; i++) {
            List<String> tokens = new ArrayList<>();
            if (i % 4 == 0) {
                test.make("TEXT", 6, tokens);
            } else {
                tokens.addAll(List.of("yes", "any", "r", "any", "if"));
                test.make("CONDITION", 2 + i % 6, tokens);
            }
            test.spoil(tokens);
            if (tokens.size() < 80 && test.nestings(tokens) <= 20) {
                test.judge(tokens);
            }
        }
        DUE.end();
    }

    private void make(String name, int depth, List<String> into) {
        int line = names.indexOf(name);
        if (line < 0) {
            into.add(token(name));
            return;
        }
        int count = ways.get(line).size();
        // What goes deeper than it may takes the least that there is.
        int way = depth > 0 ? random.nextInt(count) : name.equals("SUCH") ? 4 : name.equals("TERM") ? 1 : 0;
        for (String part : ways.get(line).get(way)) {
            make(part, depth - 1, into);
        }
    }

    private String token(String name) {
        switch (name) {
            case "PERSON":
                return "p" + random.nextInt(3);
            case "GROUP":
                return "g" + random.nextInt(2);
            case "THINGS":
                return "t" + random.nextInt(2);
            case "DUTY":
                return "" + (1 + random.nextInt(9));
            case "NUMBER":
                return random.nextBoolean() ? "7" : "999999999.000001";
            case "LETTER":
                return "" + (char) ('a' + random.nextInt(8));
            default:
                return name;
        }
    }

    private void spoil(List<String> tokens) {
        for (int n = random.nextInt(4); n > 0 && !tokens.isEmpty(); n--) {
            int at = random.nextInt(tokens.size());
            String token = TOKENS[random.nextInt(TOKENS.length)];
            int how = random.nextInt(4);
            if (how == 0) {
                tokens.remove(at);
            } else if (how == 1) {
                tokens.add(at, token);
            } else if (how == 2) {
                tokens.set(at, token);
            } else {
                tokens.subList(at, tokens.size()).clear();
            }
        }
    }

    private int nestings(List<String> tokens) {
        int nestings = 0;
        for (String token : tokens) {
            nestings += token.equals("(") || token.equals("[") || token.equals("-") || token.equals("not") ? 1 : 0;
        }
        return nestings;
    }

    private void judge(List<String> tokens) {
        StringBuilder text = new StringBuilder();
        List<Integer> starts = new ArrayList<>();
        for (String token : tokens) {
            text.append(random.nextBoolean() || text.length() == 0 ? " " : "\n ");
            starts.add(text.length());
            text.append(token);
        }
        starts.add(text.length());
        int fault = faultyToken(tokens);
        RightsHouse x = Due.house(3, 2);
        x.thing(0, 0);
        DUE.is("'" + text + "'", Due.policy(x, 0, text.toString()), fault < 0 ? 0 : -10 - starts.get(fault));
    }

    private static boolean fits(String name, String token) {
        switch (name) {
            case "PERSON":
                return token.matches("p[0-2]");
            case "GROUP":
                return token.matches("g[01]");
            case "THINGS":
                return token.matches("t[01]");
            case "DUTY":
                return token.matches("[0-9]{1,9}") && Integer.parseInt(token) > 0;
            case "NUMBER":
                return token.matches("[0-9]{1,9}(\\.[0-9]{1,6})?");
            case "LETTER":
                return token.matches("[a-h]");
            default:
                return name.equals(token);
        }
    }

    /** The first token that no way can take, the number of tokens if one more is wanted; -1 if the text is one. */
    private int faultyToken(List<String> tokens) {
        List<LinkedHashSet<Item>> sets = new ArrayList<>();
        for (int k = 0; k <= tokens.size() + 1; k++) {
            sets.add(new LinkedHashSet<>());
        }
        for (int way = 0; way < ways.get(0).size(); way++) {
            sets.get(0).add(new Item(0, way, 0, 0));
        }
        for (int k = 0; k <= tokens.size(); k++) {
            close(sets, k, k < tokens.size() ? tokens.get(k) : "");
            if (k < tokens.size() && sets.get(k + 1).isEmpty()) {
                return k;
            }
        }
        for (Item item : sets.get(tokens.size())) {
            if (item.line() == 0 && item.from() == 0 && item.dot() == ways.get(0).get(item.way()).size()) {
                return -1;
            }
        }
        return tokens.size();
    }

    /** All that can be gone ahead of token k, over and over until nothing comes, and what takes that token. */
    private void close(List<LinkedHashSet<Item>> sets, int k, String token) {
        LinkedHashSet<Item> set = sets.get(k);
        int before = -1;
        while (before != set.size()) {
            before = set.size();
            for (Item item : new ArrayList<>(set)) {
                List<String> way = ways.get(item.line()).get(item.way());
                if (item.dot() == way.size()) {
                    finish(sets, item, k);
                    continue;
                }
                int line = names.indexOf(way.get(item.dot()));
                for (int w = 0; line >= 0 && w < ways.get(line).size(); w++) {
                    set.add(new Item(line, w, 0, k));
                }
                if (line < 0 && fits(way.get(item.dot()), token)) {
                    sets.get(k + 1).add(new Item(item.line(), item.way(), item.dot() + 1, item.from()));
                }
            }
        }
    }

    private void finish(List<LinkedHashSet<Item>> sets, Item done, int k) {
        for (Item item : new ArrayList<>(sets.get(done.from()))) {
            List<String> way = ways.get(item.line()).get(item.way());
            if (item.dot() < way.size() && way.get(item.dot()).equals(names.get(done.line()))) {
                sets.get(k).add(new Item(item.line(), item.way(), item.dot() + 1, item.from()));
            }
        }
    }
}
