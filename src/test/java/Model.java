import java.math.BigInteger;
import java.util.ArrayDeque;
import java.util.ArrayList;
import java.util.Arrays;
import java.util.Collections;
import java.util.Deque;
import java.util.HashSet;
import java.util.List;
import java.util.Map;
import java.util.Set;
import java.util.TreeMap;

/**
 * The document once more, by other ways than the program: a stack machine reads the line, nodes are
 * objects, values and rows are worked out anew each time, expansions are maps of big numbers.
 */
final class Model {
    private static final int CONSTANT_PLACE = -1;

    private static final class Node {
        final char kind;
        final int detail;
        final List<Node> arguments;
        final BigInteger reach;
        final boolean mayBeAbove;
        final boolean mayBeBelow;
        final String curvature;
        int number;
        int value;
        BigInteger own = BigInteger.ZERO;

        Node(char kind, int detail, List<Node> arguments) {
            this.kind = kind;
            this.detail = detail;
            this.arguments = arguments;
            reach = reachOf(kind, detail, arguments);
            mayBeAbove = aboveByRule(this);
            mayBeBelow = belowByRule(this);
            curvature = curvatureByRule(this);
        }

        Node argument(int place) {
            return arguments.get(place);
        }

        boolean equalTo(char otherKind, int otherDetail, List<Node> others) {
            return kind == otherKind && detail == otherDetail && arguments.equals(others);
        }
    }

    private static final class Requirement {
        final boolean same;
        final Node a;
        final Node b;

        Requirement(boolean same, Node a, Node b) {
            this.same = same;
            this.a = a;
            this.b = b;
        }
    }

    private final StringBuilder line = new StringBuilder();
    private final List<Node> nodes = new ArrayList<>();
    private final List<Requirement> requirements = new ArrayList<>();
    private Node objective;
    private boolean least;
    private List<Node> columns;

    // ---- the line -------------------------------------------------------------------------

    boolean type(char c) {
        if (c < 33 || c > 126 || line.length() == 20) {
            return false;
        }
        line.append(c);
        return true;
    }

    void wipe() {
        line.setLength(0);
    }

    /** Kinds: 0 number, x variable, p parameter, # index, ~ negation, + - * and A S M L P. */
    private static final class Token {
        final char kind;
        final int detail;

        Token(char kind, int detail) {
            this.kind = kind;
            this.detail = detail;
        }
    }

    /** How many characters a stack machine passes; more than there are when the line is whole. */
    private static int passed(String text) {
        Deque<Integer> open = new ArrayDeque<>();
        String state = "operand";
        int run = 0;
        int commas = 0;
        for (int i = 0; i < text.length(); i++) {
            char c = text.charAt(i);
            boolean digit = c >= '0' && c <= '9';
            if (state.equals("number") && digit && run < 3 || state.equals("index") && digit && run < 2) {
                run++;
            } else if (state.equals("operand") && digit) {
                state = "number";
                run = 1;
            } else if (state.equals("hash") && digit) {
                state = "index";
                run = 1;
            } else if (state.equals("operand") && c == '#') {
                state = "hash";
            } else if (state.equals("operand") && "uvwxyzpqr".indexOf(c) >= 0) {
                state = "behind";
            } else if (state.equals("operand") && c == '-') {
                state = "operand";
            } else if (state.equals("operand") && c == '(') {
                open.push(0);
            } else if (state.equals("operand") && "ASMLP".indexOf(c) >= 0) {
                state = "name";
                commas = c == 'P' ? 2 : c == 'M' || c == 'L' ? 1 : 0;
            } else if (state.equals("name") && c == '(') {
                open.push(commas);
                state = "operand";
            } else if (isBehind(state) && "+-*".indexOf(c) >= 0) {
                state = "operand";
            } else if (isBehind(state) && c == ',' && !open.isEmpty() && open.peek() > 0) {
                open.push(open.pop() - 1);
                state = "operand";
            } else if (isBehind(state) && c == ')' && !open.isEmpty() && open.peek() == 0) {
                open.pop();
                state = "behind";
            } else {
                return i;
            }
        }
        return isBehind(state) && open.isEmpty() ? text.length() + 1 : text.length();
    }

    private static boolean isBehind(String state) {
        return state.equals("behind") || state.equals("number") || state.equals("index");
    }

    /** The tokens of a whole line, arguments first, by two stacks. */
    private static List<Token> postfix(String text) {
        List<Token> out = new ArrayList<>();
        Deque<Character> waiting = new ArrayDeque<>();
        boolean operand = true;
        for (int i = 0; i < text.length(); i++) {
            char c = text.charAt(i);
            if (c >= '0' && c <= '9' || c == '#') {
                int end = i + 1;
                while (end < text.length() && text.charAt(end) >= '0' && text.charAt(end) <= '9') {
                    end++;
                }
                String digits = text.substring(c == '#' ? i + 1 : i, end);
                out.add(new Token(c == '#' ? '#' : '0', Integer.parseInt(digits)));
                i = end - 1;
                operand = false;
            } else if ("uvwxyz".indexOf(c) >= 0) {
                out.add(new Token('x', c));
                operand = false;
            } else if ("pqr".indexOf(c) >= 0) {
                out.add(new Token('p', c));
                operand = false;
            } else if ("ASMLP".indexOf(c) >= 0) {
                waiting.push(c);
                waiting.push('(');
                i++;
            } else if (c == '(') {
                waiting.push('.');
                waiting.push('(');
            } else if (c == ')' || c == ',') {
                flush(waiting, out, 0);
                operand = c == ',';
                if (c == ')') {
                    waiting.pop();
                    char name = waiting.pop();
                    if (name != '.') {
                        out.add(new Token(name, 0));
                    }
                }
            } else if (operand) {
                waiting.push('~');
            } else {
                flush(waiting, out, strength(c));
                waiting.push(c);
                operand = true;
            }
        }
        flush(waiting, out, 0);
        return out;
    }

    private static void flush(Deque<Character> waiting, List<Token> out, int strength) {
        while (!waiting.isEmpty() && waiting.peek() != '(' && strength(waiting.peek()) >= strength) {
            out.add(new Token(waiting.pop(), 0));
        }
    }

    private static int strength(char c) {
        return c == '~' ? 3 : c == '*' ? 2 : 1;
    }

    private static int arity(char kind) {
        if ("0xp#".indexOf(kind) >= 0) {
            return 0;
        }
        return kind == 'P' ? 3 : "~AS".indexOf(kind) >= 0 ? 1 : 2;
    }

    int read() {
        String text = line.toString();
        int passed = passed(text);
        if (passed <= text.length()) {
            return -1 - passed;
        }
        List<Node> all = new ArrayList<>(nodes);
        Deque<Node> stack = new ArrayDeque<>();
        for (Token token : postfix(text)) {
            if (token.kind == '#') {
                if (token.detail >= nodes.size()) {
                    return -100;
                }
                stack.push(nodes.get(token.detail));
                continue;
            }
            List<Node> arguments = new ArrayList<>();
            for (int i = 0; i < arity(token.kind); i++) {
                arguments.add(stack.pop());
            }
            Collections.reverse(arguments);
            Node found = null;
            for (Node node : all) {
                found = node.equalTo(token.kind, token.detail, arguments) ? node : found;
            }
            if (found == null) {
                found = new Node(token.kind, token.detail, arguments);
                if (found.reach.compareTo(BigInteger.valueOf(1000000)) > 0) {
                    return -101;
                }
                if (all.size() == 36) {
                    return -102;
                }
                found.number = all.size();
                all.add(found);
            }
            stack.push(found);
        }
        nodes.clear();
        nodes.addAll(all);
        wipe();
        return stack.pop().number;
    }

    int nodes() {
        return nodes.size();
    }

    private Node node(int k) {
        return k >= 0 && k < nodes.size() ? nodes.get(k) : null;
    }

    // ---- rules ----------------------------------------------------------------------------

    private static BigInteger reachOf(char kind, int detail, List<Node> arguments) {
        BigInteger sum = BigInteger.ZERO;
        BigInteger product = BigInteger.ONE;
        BigInteger most = BigInteger.ZERO;
        for (Node argument : arguments) {
            sum = sum.add(argument.reach);
            product = product.multiply(argument.reach);
            most = most.max(argument.reach);
        }
        switch (kind) {
            case '0': return BigInteger.valueOf(Math.max(detail, 1));
            case 'x': return BigInteger.valueOf(20);
            case 'p': return BigInteger.valueOf(9);
            case '+': case '-': case 'P': return sum;
            case '*': return product;
            case 'S': return product.multiply(product);
            default: return most;
        }
    }

    private static boolean above(Node n) {
        return n.mayBeAbove;
    }

    private static boolean below(Node n) {
        return n.mayBeBelow;
    }

    private static boolean aboveByRule(Node n) {
        switch (n.kind) {
            case '0': return n.detail > 0;
            case 'x': return true;
            case 'p': return n.detail != 'q';
            case '+': case 'M': return above(n.argument(0)) || above(n.argument(1));
            case '-': return above(n.argument(0)) || below(n.argument(1));
            case '~': return below(n.argument(0));
            case '*': return above(n.argument(0)) && above(n.argument(1))
                    || below(n.argument(0)) && below(n.argument(1));
            case 'L': return above(n.argument(0)) && above(n.argument(1));
            case 'A': case 'S': return above(n.argument(0)) || below(n.argument(0));
            default: return above(n.argument(0)) || above(n.argument(1)) || above(n.argument(2));
        }
    }

    private static boolean belowByRule(Node n) {
        switch (n.kind) {
            case '0': return false;
            case 'x': return true;
            case 'p': return n.detail != 'p';
            case '+': case 'L': return below(n.argument(0)) || below(n.argument(1));
            case '-': return below(n.argument(0)) || above(n.argument(1));
            case '~': return above(n.argument(0));
            case '*': return above(n.argument(0)) && below(n.argument(1))
                    || below(n.argument(0)) && above(n.argument(1));
            case 'M': return below(n.argument(0)) && below(n.argument(1));
            case 'A': case 'S': return false;
            default:
                int many = 0;
                for (Node argument : n.arguments) {
                    many += below(argument) ? 1 : 0;
                }
                return many >= 2;
        }
    }

    private static boolean rises(Node n, int place) {
        switch (n.kind) {
            case '-': return place == 0;
            case '~': return false;
            case 'A': case 'S': return !below(n.argument(0));
            case '*': return !below(n.argument(1 - place));
            default: return true;
        }
    }

    private static boolean falls(Node n, int place) {
        switch (n.kind) {
            case '-': return place == 1;
            case '~': return true;
            case 'A': case 'S': return !rises(n, place) && !above(n.argument(0));
            case '*': return !rises(n, place) && !above(n.argument(1 - place));
            default: return false;
        }
    }

    private static boolean flat(Node n) {
        return curvature(n).equals("constant") || curvature(n).equals("affine");
    }

    private static boolean admits(Node n, int place, String wanted, String turned) {
        String found = curvature(n.argument(place));
        return flat(n.argument(place)) || found.equals(wanted) && rises(n, place)
                || found.equals(turned) && falls(n, place);
    }

    private static boolean allAdmit(Node n, String wanted, String turned) {
        boolean all = true;
        for (int i = 0; i < n.arguments.size(); i++) {
            all &= admits(n, i, wanted, turned);
        }
        return all;
    }

    private static boolean twoFactors(Node n) {
        return n.kind == '*' && !curvature(n.argument(0)).equals("constant")
                && !curvature(n.argument(1)).equals("constant");
    }

    private static String curvature(Node n) {
        return n.curvature;
    }

    private static String curvatureByRule(Node n) {
        if (n.arguments.isEmpty()) {
            return n.kind == 'x' ? "affine" : "constant";
        }
        boolean constant = true;
        boolean affine = true;
        for (Node argument : n.arguments) {
            constant &= curvature(argument).equals("constant");
            affine &= flat(argument);
        }
        boolean linear = "+-~*".indexOf(n.kind) >= 0;
        if (constant) {
            return "constant";
        }
        if (twoFactors(n)) {
            return "unknown";
        }
        if (linear && affine) {
            return "affine";
        }
        if (n.kind != 'L' && allAdmit(n, "convex", "concave")) {
            return "convex";
        }
        if ((linear || n.kind == 'L') && allAdmit(n, "concave", "convex")) {
            return "concave";
        }
        return "unknown";
    }

    private static boolean unknown(Node n) {
        return curvature(n).equals("unknown");
    }

    private static boolean offender(Node n) {
        boolean clean = true;
        for (Node argument : n.arguments) {
            clean &= !unknown(argument);
        }
        return unknown(n) && clean;
    }

    private static int blame(Node n) {
        if (!offender(n)) {
            return 0;
        }
        if (twoFactors(n)) {
            return 4;
        }
        if ("+-*".indexOf(n.kind) >= 0) {
            return flat(n.argument(1)) ? 1 : 2;
        }
        int place = 0;
        while (n.kind == 'L' ? admits(n, place, "concave", "convex") : admits(n, place, "convex", "concave")) {
            place++;
        }
        return place + 1;
    }

    /** The walk as the document tells it; a node that was walked without success needs no second walk. */
    private static Node walk(Node n, Set<Node> seen) {
        if (!seen.add(n)) {
            return null;
        }
        for (Node argument : n.arguments) {
            Node found = walk(argument, seen);
            if (found != null) {
                return found;
            }
        }
        return offender(n) ? n : null;
    }

    int attributes(int k) {
        Node n = node(k);
        if (n == null) {
            return -1;
        }
        int curved = Arrays.asList("constant", "affine", "convex", "concave", "unknown").indexOf(curvature(n));
        return (above(n) ? 1 : 0) + (below(n) ? 2 : 0) + 4 * curved + 32 * blame(n);
    }

    int reach(int k) {
        return node(k) == null ? 0 : node(k).reach.intValueExact();
    }

    int culprit(int k) {
        Node n = node(k);
        if (n == null) {
            return -2;
        }
        return unknown(n) ? walk(n, new HashSet<>()).number : -1;
    }

    // ---- values ---------------------------------------------------------------------------

    private int valueOf(Node n) {
        int[] all = new int[n.number + 1];
        for (int k = 0; k <= n.number; k++) {
            all[k] = valueByRule(nodes.get(k), all);
        }
        return all[n.number];
    }

    private static int valueByRule(Node n, int[] all) {
        int[] v = new int[3];
        for (int i = 0; i < n.arguments.size(); i++) {
            v[i] = all[n.argument(i).number];
        }
        switch (n.kind) {
            case '0': return n.detail;
            case 'x': case 'p': return n.value;
            case '+': return Math.addExact(v[0], v[1]);
            case '-': return Math.subtractExact(v[0], v[1]);
            case '~': return -v[0];
            case '*': return Math.multiplyExact(v[0], v[1]);
            case 'M': return v[0] > v[1] ? v[0] : v[1];
            case 'L': return v[0] < v[1] ? v[0] : v[1];
            case 'A': return v[0] < 0 ? -v[0] : v[0];
            case 'S': return Math.multiplyExact(v[0], v[0]);
            default: return v[0] + v[1] + v[2] - Math.min(v[0], Math.min(v[1], v[2]));
        }
    }

    int value(int k) {
        return node(k) == null ? 0 : valueOf(node(k));
    }

    boolean set(int k, int v) {
        Node n = node(k);
        if (n == null) {
            return false;
        }
        if (n.kind == 'x' && v >= -20 && v <= 20
                || n.kind == 'p' && v >= (n.detail == 'p' ? 0 : -9) && v <= (n.detail == 'q' ? 0 : 9)) {
            n.value = v;
            return true;
        }
        if (n.kind != 'x' && columns != null && columns.contains(n) && Math.abs((long) v) <= 1000000) {
            n.own = BigInteger.valueOf(v);
            return true;
        }
        return false;
    }

    // ---- the problem ----------------------------------------------------------------------

    boolean objective(int k, boolean toBeLeast) {
        if (node(k) == null) {
            return false;
        }
        objective = node(k);
        least = toBeLeast;
        columns = null;
        return true;
    }

    boolean require(boolean same, int a, int b) {
        if (node(a) == null || node(b) == null || requirements.size() == 6) {
            return false;
        }
        requirements.add(new Requirement(same, node(a), node(b)));
        columns = null;
        return true;
    }

    boolean withdraw(int j) {
        if (j < 0 || j >= requirements.size()) {
            return false;
        }
        requirements.remove(j);
        columns = null;
        return true;
    }

    boolean feasible() {
        for (Requirement r : requirements) {
            int order = Integer.compare(valueOf(r.a), valueOf(r.b));
            if (r.same ? order != 0 : order > 0) {
                return false;
            }
        }
        return true;
    }

    // ---- the form -------------------------------------------------------------------------

    private static void use(Node n, Set<Node> used) {
        if (used.add(n)) {
            for (Node argument : n.arguments) {
                use(argument, used);
            }
        }
    }

    int compile() {
        if (objective == null) {
            return -1;
        }
        List<Node> parts = new ArrayList<>(List.of(objective));
        List<String> wanted = new ArrayList<>(List.of(least ? "convex" : "concave"));
        for (Requirement r : requirements) {
            parts.add(r.a);
            wanted.add(r.same ? "affine" : "convex");
            parts.add(r.b);
            wanted.add(r.same ? "affine" : "concave");
        }
        Set<Node> used = new HashSet<>();
        for (int i = 0; i < parts.size(); i++) {
            Node part = parts.get(i);
            if (!flat(part) && !curvature(part).equals(wanted.get(i))) {
                return -2 - (unknown(part) ? walk(part, new HashSet<>()) : part).number;
            }
            use(part, used);
        }
        List<Node> variables = new ArrayList<>();
        List<Node> auxiliaries = new ArrayList<>();
        for (Node n : nodes) {
            n.own = BigInteger.ZERO;
            if (used.contains(n) && n.kind == 'x') {
                variables.add(n);
            } else if (used.contains(n) && "MLASP".indexOf(n.kind) >= 0 && !curvature(n).equals("constant")) {
                auxiliaries.add(n);
            }
        }
        columns = new ArrayList<>(variables);
        columns.addAll(auxiliaries);
        return columns.size();
    }

    private Map<Integer, BigInteger> expansion(Node n) {
        Map<Integer, BigInteger> out = new TreeMap<>();
        if (curvature(n).equals("constant")) {
            out.put(CONSTANT_PLACE, BigInteger.valueOf(valueOf(n)));
        } else if (columns.contains(n)) {
            out.put(columns.indexOf(n), BigInteger.ONE);
        } else if (n.kind == '+') {
            out = plus(expansion(n.argument(0)), 1, expansion(n.argument(1)));
        } else if (n.kind == '-') {
            out = plus(expansion(n.argument(0)), -1, expansion(n.argument(1)));
        } else if (n.kind == '~') {
            out = plus(out, -1, expansion(n.argument(0)));
        } else if (curvature(n.argument(0)).equals("constant")) {
            out = plus(out, valueOf(n.argument(0)), expansion(n.argument(1)));
        } else {
            out = plus(out, valueOf(n.argument(1)), expansion(n.argument(0)));
        }
        return out;
    }

    private static Map<Integer, BigInteger> plus(Map<Integer, BigInteger> one, int times,
            Map<Integer, BigInteger> other) {
        Map<Integer, BigInteger> out = new TreeMap<>(one);
        for (Map.Entry<Integer, BigInteger> part : other.entrySet()) {
            out.merge(part.getKey(), part.getValue().multiply(BigInteger.valueOf(times)), BigInteger::add);
        }
        return out;
    }

    private List<Map<Integer, BigInteger>> cone(int cone) {
        List<Map<Integer, BigInteger>> out = new ArrayList<>();
        for (Requirement r : requirements) {
            if (r.same && cone == 0) {
                out.add(plus(expansion(r.a), -1, expansion(r.b)));
            } else if (!r.same && cone == 1) {
                out.add(plus(expansion(r.b), -1, expansion(r.a)));
            }
        }
        for (Node t : columns) {
            if (t.kind != 'x' && cone == (t.kind == 'S' ? 2 : 1)) {
                addRows(t, out);
            }
        }
        return out;
    }

    private void addRows(Node t, List<Map<Integer, BigInteger>> out) {
        Map<Integer, BigInteger> own = expansion(t);
        Map<Integer, BigInteger> a = expansion(t.argument(0));
        Map<Integer, BigInteger> b = t.arguments.size() > 1 ? expansion(t.argument(1)) : null;
        Map<Integer, BigInteger> c = t.arguments.size() > 2 ? expansion(t.argument(2)) : null;
        Map<Integer, BigInteger> one = Map.of(CONSTANT_PLACE, BigInteger.ONE);
        switch (t.kind) {
            case 'M':
                out.addAll(List.of(plus(own, -1, a), plus(own, -1, b)));
                break;
            case 'L':
                out.addAll(List.of(plus(a, -1, own), plus(b, -1, own)));
                break;
            case 'A':
                out.addAll(List.of(plus(own, -1, a), plus(own, 1, a)));
                break;
            case 'P':
                out.add(plus(plus(own, -1, a), -1, b));
                out.add(plus(plus(own, -1, a), -1, c));
                out.add(plus(plus(own, -1, b), -1, c));
                break;
            default:
                out.addAll(List.of(plus(one, 1, own), plus(one, -1, own), plus(a, 1, a)));
                break;
        }
    }

    private Map<Integer, BigInteger> costRow() {
        return plus(new TreeMap<>(), least ? 1 : -1, expansion(objective));
    }

    private BigInteger rowValue(Map<Integer, BigInteger> row) {
        BigInteger sum = BigInteger.ZERO;
        for (Map.Entry<Integer, BigInteger> part : row.entrySet()) {
            BigInteger at = BigInteger.ONE;
            if (part.getKey() >= 0) {
                Node n = columns.get(part.getKey());
                at = n.kind == 'x' ? BigInteger.valueOf(n.value) : n.own;
            }
            sum = sum.add(part.getValue().multiply(at));
        }
        return sum;
    }

    int rows(int cone) {
        return columns == null || cone < 0 || cone > 2 ? 0 : cone(cone).size();
    }

    int entry(int row, int column) {
        if (columns == null || row < -1 || column < -1 || column >= columns.size()) {
            return 0;
        }
        List<Map<Integer, BigInteger>> all = new ArrayList<>(List.of(costRow()));
        for (int cone = 0; cone < 3; cone++) {
            all.addAll(cone(cone));
        }
        if (row >= all.size() - 1) {
            return 0;
        }
        return all.get(row + 1).getOrDefault(column, BigInteger.ZERO).intValueExact();
    }

    int column(int k) {
        return columns == null || node(k) == null ? -1 : columns.indexOf(node(k));
    }

    boolean lift() {
        if (columns == null) {
            return false;
        }
        for (Node n : columns) {
            n.own = BigInteger.valueOf(valueOf(n));
        }
        return true;
    }

    boolean fits() {
        if (columns == null) {
            return false;
        }
        boolean fit = true;
        for (Map<Integer, BigInteger> row : cone(0)) {
            fit &= rowValue(row).signum() == 0;
        }
        for (Map<Integer, BigInteger> row : cone(1)) {
            fit &= rowValue(row).signum() >= 0;
        }
        List<Map<Integer, BigInteger>> squares = cone(2);
        for (int i = 0; i < squares.size(); i += 3) {
            BigInteger first = rowValue(squares.get(i));
            BigInteger others = rowValue(squares.get(i + 1)).pow(2).add(rowValue(squares.get(i + 2)).pow(2));
            fit &= first.signum() >= 0 && first.pow(2).compareTo(others) >= 0;
        }
        return fit;
    }

    long cost() {
        return columns == null ? 0 : rowValue(costRow()).longValueExact();
    }
}
