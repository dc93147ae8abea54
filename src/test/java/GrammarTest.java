import java.util.ArrayList;
import java.util.Arrays;
import java.util.List;

/**
 * Promise 4, whether a line is an expression and what begins one: by the document's own rules, run by
 * a recogniser that takes any grammar (Earley's) and so knows nothing of how the program reads.
 */
public final class GrammarTest {
    private static final Check CHECK = new Check();
    private static final int LINE = 20;
    /** The words of 'Terms', and its sentences on digits and letters in the same form. */
    private static final String RULES = "expression = term, or expression + term, or expression - term;"
            + " term = factor, or term * factor;"
            + " factor = - factor, or number, or letter, or # index, or ( expression ), or A ( expression ),"
            + " or S ( expression ), or M ( expression , expression ), or L ( expression , expression ),"
            + " or P ( expression , expression , expression );"
            + " number = digit, or digit digit, or digit digit digit;"
            + " index = digit, or digit digit;"
            + " letter = u, or v, or w, or x, or y, or z, or p, or q, or r;"
            + " digit = 0, or 1, or 2, or 3, or 4, or 5, or 6, or 7, or 8, or 9";
    /** One of each sort of character, and one that stands in no expression. */
    private static final String SORTS = "x1#+-*(),AMP!";
    private static final int SHORT = 4;
    private static final int LONG_LINES = 20000;

    private static final List<Rule> GRAMMAR = grammar();

    private static final class Rule {
        final String name;
        final String[] symbols;

        Rule(String name, String[] symbols) {
            this.name = name;
            this.symbols = symbols;
        }
    }

    /** A rule of which the symbols before the dot have been met, from the place where it began. */
    private static final class Item {
        final Rule rule;
        final int dot;
        final int origin;

        Item(Rule rule, int dot, int origin) {
            this.rule = rule;
            this.dot = dot;
            this.origin = origin;
        }

        String next() {
            return dot < rule.symbols.length ? rule.symbols[dot] : "";
        }

        Item moved() {
            return new Item(rule, dot + 1, origin);
        }
    }

    private final Chance chance = new Chance(20);
    private Desk desk = new Desk();

    public static void main(String[] args) {
        GrammarTest test = new GrammarTest();
        test.shortLines();
        test.longLines();
        CHECK.finish();
    }

    private static List<Rule> grammar() {
        List<Rule> rules = new ArrayList<>();
        for (String rule : RULES.split(";")) {
            String[] sides = rule.trim().split(" = ");
            for (String symbols : sides[1].split(", or ")) {
                rules.add(new Rule(sides[0], symbols.split(" ")));
            }
        }
        return rules;
    }

    /** What read answers if the line is no expression; 0 if it is one. */
    private static int refusal(String text) {
        List<List<Item>> sets = new ArrayList<>();
        List<Item> set = new ArrayList<>();
        for (Rule rule : GRAMMAR) {
            if (rule.name.equals("expression")) {
                set.add(new Item(rule, 0, 0));
            }
        }
        for (int p = 0; p <= text.length() && !set.isEmpty(); p++) {
            sets.add(set);
            complete(sets, p);
            set = p < text.length() ? behind(set, text.substring(p, p + 1)) : set;
        }
        int p = sets.size() - 1;
        return p == text.length() && holdsWhole(sets.get(p)) ? 0 : -1 - p;
    }

    private static List<Item> behind(List<Item> set, String character) {
        List<Item> out = new ArrayList<>();
        for (Item item : set) {
            if (item.next().equals(character)) {
                out.add(item.moved());
            }
        }
        return out;
    }

    private static void complete(List<List<Item>> sets, int p) {
        List<Item> set = sets.get(p);
        for (int i = 0; i < set.size(); i++) {
            Item item = set.get(i);
            if (item.next().isEmpty()) {
                List<Item> waiting = behind(sets.get(item.origin), item.rule.name);
                waiting.forEach(found -> addNew(set, found));
            } else {
                for (Rule rule : GRAMMAR) {
                    if (rule.name.equals(item.next())) {
                        addNew(set, new Item(rule, 0, p));
                    }
                }
            }
        }
    }

    private static void addNew(List<Item> set, Item item) {
        for (Item other : set) {
            if (other.rule == item.rule && other.dot == item.dot && other.origin == item.origin) {
                return;
            }
        }
        set.add(item);
    }

    private static boolean holdsWhole(List<Item> set) {
        for (Item item : set) {
            if (item.rule.name.equals("expression") && item.origin == 0 && item.next().isEmpty()) {
                return true;
            }
        }
        return false;
    }

    /** An expression may still be refused for its nodes; which is then no matter of the grammar. */
    private void compare(String text) {
        if (desk.callsLeft() < LINE + 2) {
            desk = new Desk();
        }
        int answer = desk.read(text);
        CHECK.due("read() of " + text, answer >= 0 || answer <= ConeForms.ABSENT ? 0 : answer, refusal(text));
    }

    private void shortLines() {
        CHECK.about("promise 4, all lines of at most " + SHORT + " characters, one of each sort");
        List<String> lines = new ArrayList<>(Arrays.asList(""));
        for (int length = 0; length <= SHORT; length++) {
            List<String> longer = new ArrayList<>();
            for (String text : lines) {
                compare(text);
                for (String c : SORTS.split("")) {
                    longer.add(text + c);
                }
            }
            lines = longer;
        }
    }

    private void longLines() {
        CHECK.about("promise 4, expressions as the rules make them, cut off at the line's end, some with a slip");
        for (int i = 0; i < LONG_LINES; i++) {
            String text = made("expression", 0);
            text = text.substring(0, Math.min(LINE, text.length()));
            if (chance.pick(2) == 0) {
                int at = chance.pick(text.length());
                text = text.substring(0, at) + chance.pick(SORTS) + text.substring(at + 1);
            }
            compare(text);
        }
    }

    /** Deep down, rules of one symbol alone are taken, so that it ends. */
    private String made(String symbol, int depth) {
        List<Rule> choices = new ArrayList<>();
        for (Rule rule : GRAMMAR) {
            if (rule.name.equals(symbol) && (depth < 2 * LINE || rule.symbols.length == 1)) {
                choices.add(rule);
            }
        }
        if (choices.isEmpty()) {
            return symbol;
        }
        StringBuilder text = new StringBuilder();
        for (String part : choices.get(chance.pick(choices.size())).symbols) {
            if (text.length() <= LINE) {
                text.append(made(part, depth + 1));
            }
        }
        return text.toString();
    }
}
