/** A desk for convex models; README.md tells how to use it, the document what each call promises. */
public final class ConeForms {
    public static final int ABSENT = -100;
    public static final int LARGE = -101;
    public static final int FULL = -102;

    private static final int LINE_LIMIT = 20;
    private static final int NODE_LIMIT = 36;
    private static final int PLACES = 3;
    private static final int REQUIREMENT_LIMIT = 6;
    private static final int REACH_LIMIT = 1000000;
    private static final int OWN_LIMIT = 1000000;
    private static final int VARIABLE_LIMIT = 20;
    private static final int PARAMETER_LIMIT = 9;
    private static final int NONE = -1;

    private static final int NUMBER = 0;
    private static final int VARIABLE = 1;
    private static final int PARAMETER = 2;
    private static final int SUM = 3;
    private static final int DIFFERENCE = 4;
    private static final int NEGATION = 5;
    private static final int PRODUCT = 6;
    private static final int MAX = 7;
    private static final int MIN = 8;
    private static final int ABS = 9;
    private static final int SQUARE = 10;
    private static final int PAIRS = 11;
    /** No kind of node: a step of a script that takes a node which is there already. */
    private static final int INDEX = 12;
    /** How many arguments each kind has, in the order of the kinds. */
    private static final int[] ARITY = {0, 0, 0, 2, 2, 1, 2, 2, 2, 1, 1, 3, 0};

    private static final int ABOVE = 1;
    private static final int BELOW = 2;

    private static final int CONSTANT = 0;
    private static final int AFFINE = 1;
    private static final int CONVEX = 2;
    private static final int CONCAVE = 3;
    private static final int UNKNOWN = 4;
    private static final int BLAME_BOTH = 4;

    private static final int ZERO_CONE = 0;
    private static final int BOUND_CONE = 1;
    private static final int SQUARE_CONE = 2;
    private static final int CONES = 3;
    private static final int ROW_LIMIT = REQUIREMENT_LIMIT + PLACES * NODE_LIMIT;
    private static final int COST_ROW = -1;
    /** Aspects of an expansion: a column's number from 0 on, its constant, or its value at the columns' values. */
    private static final int CONSTANT_ASPECT = -1;
    private static final int VALUE_ASPECT = -2;

    private final Line line;
    private final Script script;
    private final Parser parser;
    private final Graph graph;
    private final Builder builder;
    private final Problem problem;
    private final Form form;

    public ConeForms() {
        line = new Line();
        script = new Script();
        parser = new Parser(line, script);
        graph = new Graph();
        builder = new Builder(graph);
        problem = new Problem();
        form = new Form(graph, problem);
    }

    public boolean type(char c) {
        return line.append(c);
    }

    public void wipe() {
        line.length = 0;
    }

    public int read() {
        int begun = parser.parseLine();
        if (begun != NONE) {
            return -1 - begun;
        }
        int before = graph.count;
        int node = builder.build(script);
        if (node < 0) {
            graph.count = before;
            return node;
        }
        for (int k = before; k < graph.count; k++) {
            graph.describe(k);
        }
        line.length = 0;
        return node;
    }

    public int nodes() {
        return graph.count;
    }

    public int attributes(int k) {
        if (!graph.has(k)) {
            return -1;
        }
        return graph.sign[k] + 4 * graph.curvature[k] + 32 * graph.blame[k];
    }

    public int reach(int k) {
        return graph.has(k) ? graph.reach[k] : 0;
    }

    public boolean set(int k, int v) {
        if (!graph.has(k)) {
            return false;
        }
        if (graph.isInput(k)) {
            return graph.assign(k, v);
        }
        return form.assignOwn(k, v);
    }

    public int value(int k) {
        return graph.has(k) ? graph.value[k] : 0;
    }

    public int culprit(int k) {
        return graph.has(k) ? graph.culprit[k] : -2;
    }

    public boolean objective(int k, boolean least) {
        if (!graph.has(k)) {
            return false;
        }
        problem.aim(k, least);
        form.stands = false;
        return true;
    }

    public boolean require(boolean same, int a, int b) {
        if (!graph.has(a) || !graph.has(b) || !problem.add(same, a, b)) {
            return false;
        }
        form.stands = false;
        return true;
    }

    public boolean withdraw(int j) {
        if (!problem.remove(j)) {
            return false;
        }
        form.stands = false;
        return true;
    }

    public int compile() {
        if (problem.target == NONE) {
            return -1;
        }
        int guilty = problem.guiltyNode(graph);
        if (guilty != NONE) {
            return -2 - guilty;
        }
        form.make();
        return form.columns;
    }

    public int rows(int cone) {
        return form.stands && cone >= 0 && cone < CONES ? form.coneRows[cone] : 0;
    }

    public int entry(int row, int column) {
        return form.hasRow(row) && form.hasColumn(column) ? form.numberAt(row, column) : 0;
    }

    public int column(int k) {
        return form.stands && graph.has(k) ? form.columnOf[k] : -1;
    }

    public boolean lift() {
        if (form.stands) {
            form.liftOwn();
        }
        return form.stands;
    }

    public boolean fits() {
        return form.stands && form.allRowsFit();
    }

    public long cost() {
        return form.stands ? form.costValue() : 0;
    }

    public boolean feasible() {
        return problem.allHold(graph);
    }

    /** The characters typed so far. */
    private static final class Line {
        private final char[] characters = new char[LINE_LIMIT];
        private int length;

        private boolean append(char c) {
            if (c < 33 || c > 126 || length >= LINE_LIMIT) {
                return false;
            }
            characters[length] = c;
            length++;
            return true;
        }
    }

    /**
     * The steps that make an expression's nodes, arguments before the node that has them. Each step
     * stems from a character of the line that is no other step's, so there are never more steps than
     * characters.
     */
    private static final class Script {
        private final int[] kinds = new int[LINE_LIMIT];
        /** A number, a letter or an index, by the step's kind; 0 for the other kinds. */
        private final int[] details = new int[LINE_LIMIT];
        private int length;

        private void add(int kind, int detail) {
            if (length < LINE_LIMIT) {
                kinds[length] = kind;
                details[length] = detail;
                length++;
            }
        }
    }

    /**
     * Turns the line into a script. It looks one character ahead and stops at the first that can't
     * go on, so what it has passed is always the beginning of some expression, and the longest.
     */
    private static final class Parser {
        private static final int NUMBER_DIGITS = 3;
        private static final int INDEX_DIGITS = 2;

        private final Line line;
        private final Script script;
        private int place;
        private boolean broken;

        private Parser(Line line, Script script) {
            this.line = line;
            this.script = script;
        }

        /** NONE when the line is an expression, else how many of its characters begin one. */
        private int parseLine() {
            place = 0;
            broken = false;
            script.length = 0;
            parseExpression(0);
            return broken || place < line.length ? place : NONE;
        }

        private void parseExpression(int depth) {
            parseTerm(depth);
            for (int i = 0; i < LINE_LIMIT && (ahead() == '+' || ahead() == '-'); i++) {
                int kind = ahead() == '+' ? SUM : DIFFERENCE;
                place++;
                parseTerm(depth);
                script.add(kind, 0);
            }
        }

        private void parseTerm(int depth) {
            parseFactor(depth);
            for (int i = 0; i < LINE_LIMIT && ahead() == '*'; i++) {
                place++;
                parseFactor(depth);
                script.add(PRODUCT, 0);
            }
        }

        private void parseFactor(int depth) {
            char c = ahead();
            if (depth > LINE_LIMIT) {
                broken = true;
            } else if (c == '-') {
                place++;
                parseFactor(depth + 1);
                script.add(NEGATION, 0);
            } else if (c == '(') {
                place++;
                parseExpression(depth + 1);
                expect(')');
            } else if (c == '#') {
                place++;
                broken = !isDigit(ahead());
                script.add(INDEX, parseDigits(INDEX_DIGITS));
            } else if (isDigit(c)) {
                script.add(NUMBER, parseDigits(NUMBER_DIGITS));
            } else if (functionOf(c) != NONE) {
                place++;
                parseArguments(functionOf(c), depth);
            } else {
                parseLetter(c);
            }
        }

        private void parseArguments(int kind, int depth) {
            expect('(');
            for (int i = 0; i < ARITY[kind]; i++) {
                if (i > 0) {
                    expect(',');
                }
                parseExpression(depth + 1);
            }
            expect(')');
            script.add(kind, 0);
        }

        private void parseLetter(char c) {
            if (c >= 'u' && c <= 'z') {
                place++;
                script.add(VARIABLE, c);
            } else if (c >= 'p' && c <= 'r') {
                place++;
                script.add(PARAMETER, c);
            } else {
                broken = true;
            }
        }

        private int parseDigits(int most) {
            int number = 0;
            for (int i = 0; i < most && isDigit(ahead()); i++) {
                number = 10 * number + (ahead() - '0');
                place++;
            }
            return number;
        }

        private void expect(char c) {
            if (ahead() == c) {
                place++;
            } else {
                broken = true;
            }
        }

        /**
         * The next character; 0, which can't be typed, at the end of the line and behind a fault, so
         * that no method passes anything more there.
         */
        private char ahead() {
            return broken || place >= line.length ? 0 : line.characters[place];
        }

        private static boolean isDigit(char c) {
            return c >= '0' && c <= '9';
        }

        private static int functionOf(char c) {
            switch (c) {
                case 'A':
                    return ABS;
                case 'S':
                    return SQUARE;
                case 'M':
                    return MAX;
                case 'L':
                    return MIN;
                case 'P':
                    return PAIRS;
                default:
                    return NONE;
            }
        }
    }

    /** Runs a script on the graph. */
    private static final class Builder {
        private final Graph graph;
        private final int[] stack = new int[LINE_LIMIT];
        private int height;

        private Builder(Graph graph) {
            this.graph = graph;
        }

        /** The node of the whole script, or why it can't be made. */
        private int build(Script script) {
            int before = graph.count;
            int node = 0;
            height = 0;
            for (int i = 0; i < script.length && node >= 0; i++) {
                node = runStep(script.kinds[i], script.details[i], before);
                push(node);
            }
            return node;
        }

        private int runStep(int kind, int detail, int before) {
            if (kind == INDEX) {
                return detail < before ? detail : ABSENT;
            }
            int arity = ARITY[kind];
            int c = arity > 2 ? pop() : NONE;
            int b = arity > 1 ? pop() : NONE;
            int a = arity > 0 ? pop() : NONE;
            return graph.obtain(kind, detail, a, b, c);
        }

        private void push(int node) {
            if (height < LINE_LIMIT) {
                stack[height] = node;
                height++;
            }
        }

        private int pop() {
            if (height > 0) {
                height--;
            }
            return stack[height];
        }
    }

    /** All nodes. A node's arguments have lesser numbers, so going upwards meets them before it. */
    private static final class Graph {
        private final int[] kind = new int[NODE_LIMIT];
        /** The number of a NUMBER, the letter of a VARIABLE or PARAMETER, else 0. */
        private final int[] detail = new int[NODE_LIMIT];
        /** PLACES for each node, NONE where its kind has fewer arguments. */
        private final int[] arguments = new int[PLACES * NODE_LIMIT];
        private final int[] reach = new int[NODE_LIMIT];
        private final int[] sign = new int[NODE_LIMIT];
        private final int[] curvature = new int[NODE_LIMIT];
        private final int[] blame = new int[NODE_LIMIT];
        private final int[] culprit = new int[NODE_LIMIT];
        private final int[] value = new int[NODE_LIMIT];
        private int count;

        private boolean has(int k) {
            return k >= 0 && k < count;
        }

        private boolean isInput(int k) {
            return kind[k] == VARIABLE || kind[k] == PARAMETER;
        }

        private int argument(int k, int place) {
            return arguments[PLACES * k + place];
        }

        /**
         * The node that is so; LARGE or FULL if it can't be made. A new one is not described yet: the
         * rest of the line may still be refused.
         */
        private int obtain(int newKind, int newDetail, int a, int b, int c) {
            int there = find(newKind, newDetail, a, b, c);
            if (there != NONE) {
                return there;
            }
            long wide = wouldReach(newKind, newDetail, a, b, c);
            if (wide > REACH_LIMIT) {
                return LARGE;
            }
            if (count >= NODE_LIMIT) {
                return FULL;
            }
            int k = count;
            kind[k] = newKind;
            detail[k] = newDetail;
            arguments[PLACES * k] = a;
            arguments[PLACES * k + 1] = b;
            arguments[PLACES * k + 2] = c;
            reach[k] = (int) wide;
            count++;
            return k;
        }

        private int find(int soughtKind, int soughtDetail, int a, int b, int c) {
            for (int k = 0; k < count; k++) {
                if (kind[k] == soughtKind && detail[k] == soughtDetail
                        && argument(k, 0) == a && argument(k, 1) == b && argument(k, 2) == c) {
                    return k;
                }
            }
            return NONE;
        }

        private long wouldReach(int newKind, int newDetail, int a, int b, int c) {
            long reachA = reachOrZero(a);
            long reachB = reachOrZero(b);
            switch (newKind) {
                case NUMBER:
                    return Math.max(newDetail, 1);
                case VARIABLE:
                    return VARIABLE_LIMIT;
                case PARAMETER:
                    return PARAMETER_LIMIT;
                case SUM:
                case DIFFERENCE:
                case PAIRS:
                    return reachA + reachB + reachOrZero(c);
                case PRODUCT:
                    return reachA * reachB;
                case SQUARE:
                    return reachA * reachA;
                default:
                    return Math.max(reachA, reachB);
            }
        }

        private long reachOrZero(int k) {
            return k == NONE ? 0 : reach[k];
        }

        private void describe(int k) {
            value[k] = isInput(k) ? 0 : calculate(k);
            sign[k] = signOf(k);
            curvature[k] = curvatureOf(k);
            culprit[k] = culpritOf(k);
            blame[k] = culprit[k] == k ? blameOf(k) : 0;
        }

        private boolean assign(int k, int v) {
            if (v < least(k) || v > greatest(k)) {
                return false;
            }
            value[k] = v;
            for (int i = k + 1; i < count; i++) {
                if (!isInput(i)) {
                    value[i] = calculate(i);
                }
            }
            return true;
        }

        private int least(int k) {
            if (kind[k] == VARIABLE) {
                return -VARIABLE_LIMIT;
            }
            return detail[k] == 'p' ? 0 : -PARAMETER_LIMIT;
        }

        private int greatest(int k) {
            if (kind[k] == VARIABLE) {
                return VARIABLE_LIMIT;
            }
            return detail[k] == 'q' ? 0 : PARAMETER_LIMIT;
        }

        private int argumentValue(int k, int place) {
            int node = argument(k, place);
            return node == NONE ? 0 : value[node];
        }

        /** By the arguments' values; an int holds it, for no value lies beyond its reach. */
        private int calculate(int k) {
            int a = argumentValue(k, 0);
            int b = argumentValue(k, 1);
            int c = argumentValue(k, 2);
            switch (kind[k]) {
                case SUM:
                    return a + b;
                case DIFFERENCE:
                    return a - b;
                case NEGATION:
                    return -a;
                case PRODUCT:
                    return a * b;
                case MAX:
                    return Math.max(a, b);
                case MIN:
                    return Math.min(a, b);
                case ABS:
                    return Math.abs(a);
                case SQUARE:
                    return a * a;
                case PAIRS:
                    return Math.max(a + b, Math.max(a + c, b + c));
                default:
                    return detail[k];
            }
        }

        private int argumentSign(int k, int place) {
            int node = argument(k, place);
            return node == NONE ? 0 : sign[node];
        }

        /** ABOVE, BELOW, both or neither, as bits. */
        private int signOf(int k) {
            int a = argumentSign(k, 0);
            int b = argumentSign(k, 1);
            int c = argumentSign(k, 2);
            switch (kind[k]) {
                case SUM:
                    return a | b;
                case DIFFERENCE:
                    return a | opposite(b);
                case NEGATION:
                    return opposite(a);
                case PRODUCT:
                    return ((a & b) != 0 ? ABOVE : 0) | ((a & opposite(b)) != 0 ? BELOW : 0);
                case MAX:
                    return ((a | b) & ABOVE) | (a & b & BELOW);
                case MIN:
                    return (a & b & ABOVE) | ((a | b) & BELOW);
                case ABS:
                case SQUARE:
                    return a != 0 ? ABOVE : 0;
                case PAIRS:
                    return ((a | b | c) & ABOVE) | ((a & b | a & c | b & c) & BELOW);
                default:
                    return leafSign(k);
            }
        }

        private int leafSign(int k) {
            if (kind[k] == NUMBER) {
                return detail[k] > 0 ? ABOVE : 0;
            }
            return (greatest(k) > 0 ? ABOVE : 0) | (least(k) < 0 ? BELOW : 0);
        }

        private static int opposite(int sign) {
            return ((sign & ABOVE) != 0 ? BELOW : 0) | ((sign & BELOW) != 0 ? ABOVE : 0);
        }

        private int curvatureOf(int k) {
            if (ARITY[kind[k]] == 0) {
                return kind[k] == VARIABLE ? AFFINE : CONSTANT;
            }
            if (mostBent(k) == CONSTANT) {
                return CONSTANT;
            }
            if (isProductOfTwo(k)) {
                return UNKNOWN;
            }
            if (isLinear(k) && mostBent(k) == AFFINE) {
                return AFFINE;
            }
            if (kind[k] != MIN && firstAgainst(k, CONVEX) == NONE) {
                return CONVEX;
            }
            boolean mayBeConcave = isLinear(k) || kind[k] == MIN;
            return mayBeConcave && firstAgainst(k, CONCAVE) == NONE ? CONCAVE : UNKNOWN;
        }

        /** CONSTANT if all arguments are, AFFINE if all are that or CONSTANT, else something above. */
        private int mostBent(int k) {
            int found = CONSTANT;
            for (int i = 0; i < ARITY[kind[k]]; i++) {
                found = Math.max(found, curvature[argument(k, i)]);
            }
            return found;
        }

        private boolean isLinear(int k) {
            return kind[k] == SUM || kind[k] == DIFFERENCE || kind[k] == NEGATION || kind[k] == PRODUCT;
        }

        private boolean isProductOfTwo(int k) {
            return kind[k] == PRODUCT && curvature[argument(k, 0)] != CONSTANT
                    && curvature[argument(k, 1)] != CONSTANT;
        }

        /** The place of the first argument that does not admit CONVEX, or CONCAVE; NONE if all do. */
        private int firstAgainst(int k, int wanted) {
            for (int i = 0; i < ARITY[kind[k]]; i++) {
                if (!admits(k, i, wanted)) {
                    return i;
                }
            }
            return NONE;
        }

        private boolean admits(int k, int place, int wanted) {
            int found = curvature[argument(k, place)];
            if (found == CONSTANT || found == AFFINE) {
                return true;
            }
            int turned = wanted == CONVEX ? CONCAVE : CONVEX;
            int slope = slopeIn(k, place);
            return found == wanted && slope > 0 || found == turned && slope < 0;
        }

        /** 1 where the node rises in the argument, -1 where it falls, else 0. */
        private int slopeIn(int k, int place) {
            switch (kind[k]) {
                case DIFFERENCE:
                    return place == 0 ? 1 : -1;
                case NEGATION:
                    return -1;
                case ABS:
                case SQUARE:
                    return slopeFor(sign[argument(k, 0)]);
                case PRODUCT:
                    return slopeFor(sign[argument(k, 1 - place)]);
                default:
                    return 1;
            }
        }

        private static int slopeFor(int sign) {
            if ((sign & BELOW) == 0) {
                return 1;
            }
            return (sign & ABOVE) == 0 ? -1 : 0;
        }

        /**
         * A node that is not UNKNOWN has nothing UNKNOWN below it, so the walk's first offender lies
         * below the first UNKNOWN argument, and a node without one is the offender itself.
         */
        private int culpritOf(int k) {
            if (curvature[k] != UNKNOWN) {
                return NONE;
            }
            for (int i = 0; i < ARITY[kind[k]]; i++) {
                if (curvature[argument(k, i)] == UNKNOWN) {
                    return culprit[argument(k, i)];
                }
            }
            return k;
        }

        private int blameOf(int k) {
            if (isProductOfTwo(k)) {
                return BLAME_BOTH;
            }
            if (isLinear(k)) {
                return 1 + lastBent(k);
            }
            return 1 + firstAgainst(k, kind[k] == MIN ? CONCAVE : CONVEX);
        }

        private int lastBent(int k) {
            int last = NONE;
            for (int i = 0; i < ARITY[kind[k]]; i++) {
                if (curvature[argument(k, i)] > AFFINE) {
                    last = i;
                }
            }
            return last;
        }
    }

    /** The objective and the requirements. */
    private static final class Problem {
        private final boolean[] same = new boolean[REQUIREMENT_LIMIT];
        private final int[] left = new int[REQUIREMENT_LIMIT];
        private final int[] right = new int[REQUIREMENT_LIMIT];
        private int count;
        private int target = NONE;
        private boolean toBeLeast;

        private void aim(int k, boolean least) {
            target = k;
            toBeLeast = least;
        }

        private boolean add(boolean alike, int a, int b) {
            if (count >= REQUIREMENT_LIMIT) {
                return false;
            }
            same[count] = alike;
            left[count] = a;
            right[count] = b;
            count++;
            return true;
        }

        private boolean remove(int j) {
            if (j < 0 || j >= count) {
                return false;
            }
            count--;
            for (int i = j; i < count; i++) {
                same[i] = same[i + 1];
                left[i] = left[i + 1];
                right[i] = right[i + 1];
            }
            return true;
        }

        private boolean allHold(Graph graph) {
            for (int j = 0; j < count; j++) {
                int a = graph.value[left[j]];
                int b = graph.value[right[j]];
                if (same[j] ? a != b : a > b) {
                    return false;
                }
            }
            return true;
        }

        /** The problem's culprit; NONE when every part is as wanted. */
        private int guiltyNode(Graph graph) {
            int guilty = guiltOf(graph, target, toBeLeast ? CONVEX : CONCAVE);
            for (int j = 0; j < count && guilty == NONE; j++) {
                guilty = guiltOf(graph, left[j], same[j] ? AFFINE : CONVEX);
                if (guilty == NONE) {
                    guilty = guiltOf(graph, right[j], same[j] ? AFFINE : CONCAVE);
                }
            }
            return guilty;
        }

        private static int guiltOf(Graph graph, int k, int wanted) {
            int found = graph.curvature[k];
            if (found == CONSTANT || found == AFFINE || found == wanted) {
                return NONE;
            }
            return found == UNKNOWN ? graph.culprit[k] : k;
        }
    }

    /**
     * The cone form. It keeps which columns and rows there are; their numbers are worked out when
     * they are asked for, because they follow the parameters' values.
     */
    private static final class Form {
        private final Graph graph;
        private final Problem problem;
        private final boolean[] used = new boolean[NODE_LIMIT];
        private final int[] columnOf = new int[NODE_LIMIT];
        private final int[] own = new int[NODE_LIMIT];
        private final int[] coneRows = new int[CONES];
        /** What a row stems from: a requirement for the first problem.count rows, else an auxiliary. */
        private final int[] rowOwner = new int[ROW_LIMIT];
        /** Which of its auxiliary's rows a row is. */
        private final int[] rowPlace = new int[ROW_LIMIT];
        /** One aspect of the expansion of each node in use. */
        private final long[] spread = new long[NODE_LIMIT];
        private int rowCount;
        private int columns;
        private boolean stands;

        private Form(Graph graph, Problem problem) {
            this.graph = graph;
            this.problem = problem;
        }

        private boolean hasRow(int row) {
            return stands && row >= COST_ROW && row < rowCount;
        }

        private boolean hasColumn(int column) {
            return stands && column >= CONSTANT_ASPECT && column < columns;
        }

        private void make() {
            markUsed();
            numberColumns();
            numberRows();
            stands = true;
        }

        private void markUsed() {
            for (int k = 0; k < NODE_LIMIT; k++) {
                used[k] = false;
            }
            used[problem.target] = true;
            for (int j = 0; j < problem.count; j++) {
                used[problem.left[j]] = true;
                used[problem.right[j]] = true;
            }
            for (int k = graph.count - 1; k >= 0; k--) {
                for (int i = 0; used[k] && i < ARITY[graph.kind[k]]; i++) {
                    used[graph.argument(k, i)] = true;
                }
            }
        }

        private boolean isAuxiliary(int k) {
            return used[k] && graph.kind[k] >= MAX && graph.curvature[k] != CONSTANT;
        }

        private void numberColumns() {
            columns = 0;
            for (int k = 0; k < NODE_LIMIT; k++) {
                columnOf[k] = NONE;
                own[k] = 0;
            }
            for (int k = 0; k < graph.count; k++) {
                if (used[k] && graph.kind[k] == VARIABLE) {
                    columnOf[k] = columns;
                    columns++;
                }
            }
            for (int k = 0; k < graph.count; k++) {
                if (isAuxiliary(k)) {
                    columnOf[k] = columns;
                    columns++;
                }
            }
        }

        private void numberRows() {
            rowCount = 0;
            addRequirementRows(true);
            coneRows[ZERO_CONE] = rowCount;
            addRequirementRows(false);
            addAuxiliaryRows(false);
            coneRows[BOUND_CONE] = rowCount - coneRows[ZERO_CONE];
            int before = rowCount;
            addAuxiliaryRows(true);
            coneRows[SQUARE_CONE] = rowCount - before;
        }

        private void addRequirementRows(boolean same) {
            for (int j = 0; j < problem.count; j++) {
                if (problem.same[j] == same) {
                    addRow(j, 0);
                }
            }
        }

        private void addAuxiliaryRows(boolean squares) {
            for (int k = 0; k < graph.count; k++) {
                if (isAuxiliary(k) && (graph.kind[k] == SQUARE) == squares) {
                    int most = squares || graph.kind[k] == PAIRS ? 3 : 2;
                    for (int i = 0; i < most; i++) {
                        addRow(k, i);
                    }
                }
            }
        }

        private void addRow(int owner, int place) {
            if (rowCount < ROW_LIMIT) {
                rowOwner[rowCount] = owner;
                rowPlace[rowCount] = place;
                rowCount++;
            }
        }

        private boolean assignOwn(int k, int v) {
            if (!stands || !isAuxiliary(k) || v < -OWN_LIMIT || v > OWN_LIMIT) {
                return false;
            }
            own[k] = v;
            return true;
        }

        private void liftOwn() {
            for (int k = 0; k < graph.count; k++) {
                if (isAuxiliary(k)) {
                    own[k] = graph.value[k];
                }
            }
        }

        private int numberAt(int row, int aspect) {
            expand(aspect);
            return (int) rowNumber(row, aspect);
        }

        private long costValue() {
            expand(VALUE_ASPECT);
            return rowNumber(COST_ROW, VALUE_ASPECT);
        }

        private void expand(int aspect) {
            for (int k = 0; k < graph.count; k++) {
                if (used[k]) {
                    spread[k] = expandNode(k, aspect);
                }
            }
        }

        private long expandNode(int k, int aspect) {
            if (graph.curvature[k] == CONSTANT) {
                return aspect >= 0 ? 0 : graph.value[k];
            }
            if (columnOf[k] != NONE) {
                return expandColumn(k, aspect);
            }
            int a = graph.argument(k, 0);
            int b = graph.argument(k, 1);
            switch (graph.kind[k]) {
                case SUM:
                    return spread[a] + spread[b];
                case DIFFERENCE:
                    return spread[a] - spread[b];
                case NEGATION:
                    return -spread[a];
                case PRODUCT:
                    return graph.curvature[a] == CONSTANT ? graph.value[a] * spread[b] : spread[a] * graph.value[b];
                default:
                    return 0;
            }
        }

        private long expandColumn(int k, int aspect) {
            if (aspect == VALUE_ASPECT) {
                return graph.kind[k] == VARIABLE ? graph.value[k] : own[k];
            }
            return aspect == columnOf[k] ? 1 : 0;
        }

        /** The row's number in the aspect that was expanded last. */
        private long rowNumber(int row, int aspect) {
            if (row == COST_ROW) {
                return problem.toBeLeast ? spread[problem.target] : -spread[problem.target];
            }
            int owner = rowOwner[row];
            if (row >= problem.count) {
                return auxiliaryRow(owner, rowPlace[row], aspect >= 0 ? 0 : 1);
            }
            long difference = spread[problem.left[owner]] - spread[problem.right[owner]];
            return problem.same[owner] ? difference : -difference;
        }

        private long auxiliaryRow(int k, int place, int one) {
            long t = spread[k];
            switch (graph.kind[k]) {
                case MAX:
                    return t - argumentSpread(k, place);
                case MIN:
                    return argumentSpread(k, place) - t;
                case ABS:
                    return place == 0 ? t - argumentSpread(k, 0) : t + argumentSpread(k, 0);
                case PAIRS:
                    return t - argumentSpread(k, place == 2 ? 1 : 0) - argumentSpread(k, place == 0 ? 1 : 2);
                default:
                    return squareRow(t, argumentSpread(k, 0), place, one);
            }
        }

        private static long squareRow(long t, long a, int place, int one) {
            if (place == 2) {
                return 2 * a;
            }
            return place == 0 ? one + t : one - t;
        }

        private long argumentSpread(int k, int place) {
            int node = graph.argument(k, place);
            return node == NONE ? 0 : spread[node];
        }

        private boolean allRowsFit() {
            expand(VALUE_ASPECT);
            int bounds = coneRows[ZERO_CONE];
            int squares = bounds + coneRows[BOUND_CONE];
            boolean fit = true;
            for (int row = 0; row < bounds; row++) {
                fit = fit && rowNumber(row, VALUE_ASPECT) == 0;
            }
            for (int row = bounds; row < squares; row++) {
                fit = fit && rowNumber(row, VALUE_ASPECT) >= 0;
            }
            for (int row = squares; row < rowCount; row += 3) {
                fit = fit && squareFits(row);
            }
            return fit;
        }

        /**
         * A SQUARE's argument has a reach of at most 1000, and the numbers of its expansion do not add
         * up to more; no column's value is beyond 1000000. So the third row stays within 2 * 10^9, and
         * the squares and their sum are exact in 64 bits.
         */
        private boolean squareFits(int row) {
            long first = rowNumber(row, VALUE_ASPECT);
            long second = rowNumber(row + 1, VALUE_ASPECT);
            long third = rowNumber(row + 2, VALUE_ASPECT);
            return first >= 0 && first * first >= second * second + third * third;
        }
    }
}
