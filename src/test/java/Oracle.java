import java.math.BigInteger;
import java.util.ArrayDeque;
import java.util.ArrayList;
import java.util.Arrays;
import java.util.Collections;
import java.util.Comparator;
import java.util.Deque;
import java.util.HashMap;
import java.util.HashSet;
import java.util.List;
import java.util.Map;
import java.util.Set;
import java.util.function.Predicate;

/**
 * The document told once more, as plainly and wastefully as can be, by other means than the program's:
 * rows are tried one by one, nothing is packed, nothing is remembered between poses.
 */
final class Oracle {
    private static final List<String> VARS =
        List.of("apart", "tangles", "pulls", "nods", "side", "hand", "seat", "which", "at");
    private static final Set<String> WORDS = new HashSet<>(List.of("puppet", "string", "child", "order", "verdict",
        "votes", "storm", "seed", "if", "then", "else", "apart", "tangles", "pulls", "nods", "side", "hand", "seat",
        "which", "at"));

    /** A division by 0 somewhere in what a law looks at. */
    private static final class ByZero extends Exception {
        private static final long serialVersionUID = 1L;
    }

    private record Token(String sort, String text, int place) {
    }

    /** A sum, product, number or name: 'op' and its parts. */
    private record Node(String op, int value, Node left, Node right) {
    }

    private record Branch(Node less, Node more, Node then) {
    }

    private static final class State {
        int[] x;
        boolean[] head;
        boolean[] hand;
        int pulls;
        int side;
        int verdict;
        int cases;
        int all;
        int storms;
        int[] won = new int[3];
        int[] pulled;
        List<int[]> precedents = new ArrayList<>();

        State copy() {
            State s = new State();
            s.x = x.clone();
            s.head = head.clone();
            s.hand = hand.clone();
            s.pulls = pulls;
            s.side = side;
            s.verdict = verdict;
            s.cases = cases;
            s.all = all;
            s.storms = storms;
            s.won = won.clone();
            s.pulled = pulled.clone();
            s.precedents = new ArrayList<>(precedents);
            return s;
        }
    }

    private final StringBuilder tape = new StringBuilder();
    private int place = -1;
    private List<int[]> puppets = new ArrayList<>();
    private List<int[]> strings = new ArrayList<>();
    private List<Integer> seats = new ArrayList<>();
    private Map<String, List<Branch>> laws = new HashMap<>();
    private int storm;
    private int seed;
    private State s;
    private final Deque<State> undone = new ArrayDeque<>();
    private final State[] slots = new State[3];
    private final List<int[]> told = new ArrayList<>();

    Oracle() {
        begin();
    }

    private void begin() {
        s = new State();
        s.pulled = new int[strings.size()];
        openCase();
        undone.clear();
        told.clear();
        Arrays.fill(slots, null);
    }

    private void openCase() {
        s.x = new int[puppets.size()];
        for (int i = 0; i < s.x.length; i++) {
            s.x[i] = puppets.get(i)[0];
        }
        s.head = new boolean[s.x.length];
        s.hand = new boolean[s.x.length];
        s.pulls = 0;
        s.side = 0;
        s.verdict = 0;
        s.cases++;
    }

    // ---- texts

    private static List<Token> tokensOf(String text) {
        List<Token> tokens = new ArrayList<>();
        int at = 0;
        while (at < text.length()) {
            String rest = text.substring(at);
            String run = rest.replaceFirst("(?s)^([a-z]+|[0-9]+|.).*$", "$1");
            char c = run.charAt(0);
            String sort = null;
            if (c >= 'a' && c <= 'z') {
                sort = run.length() > 8 ? "bad" : WORDS.contains(run) ? run : "NAME";
            } else if (c >= '0' && c <= '9') {
                sort = run.length() > 4 ? "bad" : "INT";
            } else if (";=+-*/<()".indexOf(c) >= 0) {
                sort = run;
            } else if (" \t\r\n".indexOf(c) < 0) {
                sort = "bad";
            }
            if (sort != null) {
                tokens.add(new Token(sort, run, at));
            }
            at += run.length();
        }
        tokens.add(new Token("end", "", text.length()));
        return tokens;
    }

    /** What a sort of phrase is made of, by the token that comes next; null: it is no phrase but a token. */
    private static List<String> madeOf(String phrase, String next) {
        switch (phrase) {
            case "TEXT":
                return next.equals("end") ? List.of("end") : List.of("TELL", "TEXT");
            case "TELL":
                switch (next) {
                    case "puppet":
                        return List.of("puppet", "NAME", "INT", "INT", ";");
                    case "string":
                        return List.of("string", "NAME", "NAME", "INT", "SIGN", "INT", "INT", ";");
                    case "child":
                    case "storm":
                    case "seed":
                        return List.of(next, "INT", ";");
                    case "order":
                    case "verdict":
                    case "votes":
                        return List.of(next, "=", "IFS", "E", ";");
                    default:
                        return List.of("nothing");
                }
            case "SIGN":
                return next.equals("-") ? List.of("-") : List.of();
            case "IFS":
                return next.equals("if") ? List.of("if", "E", "<", "E", "then", "E", "else", "IFS") : List.of();
            case "E":
                return List.of("PART", "PARTS");
            case "PARTS":
                return next.equals("+") || next.equals("-") ? List.of(next, "PART", "PARTS") : List.of();
            case "PART":
                return List.of("UNIT", "UNITS");
            case "UNITS":
                return next.equals("*") || next.equals("/") ? List.of(next, "UNIT", "UNITS") : List.of();
            case "UNIT":
                return next.equals("(") ? List.of("(", "E", ")")
                    : VARS.contains(next) ? List.of(next) : List.of("INT");
            default:
                return null;
        }
    }

    private static int[] faultOfForm(List<Token> tokens) {
        Deque<String> due = new ArrayDeque<>(List.of("TEXT"));
        Map<String, Integer> sorts = new HashMap<>();
        int ifs = 0;
        int depth = 0;
        for (int i = 0; i < tokens.size(); i++) {
            Token t = tokens.get(i);
            List<String> parts = madeOf(due.peek(), t.sort);
            while (parts != null) {
                due.pop();
                for (int k = parts.size() - 1; k >= 0; k--) {
                    due.push(parts.get(k));
                }
                parts = madeOf(due.peek(), t.sort);
            }
            if (!due.pop().equals(t.sort)) {
                return new int[] {1, t.place};
            }
            int most = t.sort.equals("puppet") ? 5 : t.sort.equals("string") || t.sort.equals("child") ? 7 : 999;
            ifs = t.sort.equals("=") ? 0 : t.sort.equals("if") ? ifs + 1 : ifs;
            depth = t.sort.equals("(") ? depth + 1 : t.sort.equals(")") ? depth - 1 : depth;
            boolean full = i >= 400 && !t.sort.equals("end") || sorts.merge(t.sort, 1, Integer::sum) > most;
            if (full || ifs > 4 || depth > 6) {
                return new int[] {2, t.place};
            }
        }
        return null;
    }

    int read() {
        String text = tape.toString();
        tape.setLength(0);
        List<Token> tokens = tokensOf(text);
        int[] fault = faultOfForm(tokens);
        Oracle fresh = null;
        if (fault == null) {
            fresh = new Oracle();
            fault = fresh.take(tokens);
        }
        place = fault == null ? -1 : fault[1];
        if (fault != null) {
            return fault[0];
        }
        puppets = fresh.puppets;
        strings = fresh.strings;
        seats = fresh.seats;
        laws = fresh.laws;
        storm = fresh.storm;
        seed = fresh.seed;
        begin();
        return 0;
    }

    /** Takes in a text of good form; its first fault of meaning. */
    private int[] take(List<Token> tokens) {
        List<int[]> faults = new ArrayList<>();
        Map<String, Integer> names = new HashMap<>();
        int from = 0;
        for (int to = 0; to < tokens.size(); to++) {
            if (tokens.get(to).sort.equals(";")) {
                takeTell(tokens.subList(from, to), names, faults);
                from = to + 1;
            }
        }
        faults.sort(Comparator.<int[]>comparingInt(f -> f[1]).thenComparingInt(f -> f[0]));
        return faults.isEmpty() ? null : faults.get(0);
    }

    private void takeTell(List<Token> tell, Map<String, Integer> names, List<int[]> faults) {
        switch (tell.get(0).sort) {
            case "puppet":
                name(tell.get(1), puppets.size(), names, faults);
                puppets.add(new int[] {number(tell.get(2), 9, faults), number(tell.get(3), 9, faults)});
                break;
            case "string":
                name(tell.get(1), -1, names, faults);
                int owner = names.getOrDefault(tell.get(2).text, -1);
                if (owner < 0) {
                    faults.add(new int[] {4, tell.get(2).place});
                }
                boolean minus = tell.get(4).sort.equals("-");
                int k = minus ? 5 : 4;
                int move = number(tell.get(k), 9, faults);
                strings.add(new int[] {owner, number(tell.get(3), 2, faults), minus ? -move : move,
                    number(tell.get(k + 1), 3, faults)});
                break;
            case "child":
                seats.add(number(tell.get(1), 9, faults));
                break;
            case "storm":
                storm = number(tell.get(1), 100, faults);
                break;
            case "seed":
                seed = number(tell.get(1), 9999, faults);
                break;
            default:
                laws.put(tell.get(0).sort, lawOf(tell.subList(2, tell.size())));
        }
    }

    private static void name(Token t, int puppet, Map<String, Integer> names, List<int[]> faults) {
        if (names.putIfAbsent(t.text, puppet) != null) {
            faults.add(new int[] {3, t.place});
        }
    }

    private static int number(Token t, int most, List<int[]> faults) {
        int number = Integer.parseInt(t.text);
        if (number > most) {
            faults.add(new int[] {5, t.place});
        }
        return number;
    }

    private static List<Branch> lawOf(List<Token> tokens) {
        List<Branch> law = new ArrayList<>();
        int from = 0;
        while (tokens.get(from).sort.equals("if")) {
            int less = find(tokens, from, "<");
            int then = find(tokens, less, "then");
            int other = find(tokens, then, "else");
            law.add(new Branch(nodeOf(tokens.subList(from + 1, less)), nodeOf(tokens.subList(less + 1, then)),
                nodeOf(tokens.subList(then + 1, other))));
            from = other + 1;
        }
        law.add(new Branch(null, null, nodeOf(tokens.subList(from, tokens.size()))));
        return law;
    }

    private static int find(List<Token> tokens, int from, String sort) {
        int at = from;
        while (!tokens.get(at).sort.equals(sort)) {
            at++;
        }
        return at;
    }

    /** Split at the last sign of the weakest sort that stands outside brackets. */
    private static Node nodeOf(List<Token> tokens) {
        for (String signs : List.of("+-", "*/")) {
            int depth = 0;
            for (int i = tokens.size() - 1; i >= 0; i--) {
                String sort = tokens.get(i).sort;
                depth += sort.equals(")") ? 1 : sort.equals("(") ? -1 : 0;
                if (depth == 0 && sort.length() == 1 && signs.contains(sort)) {
                    return new Node(sort, 0, nodeOf(tokens.subList(0, i)), nodeOf(tokens.subList(i + 1, tokens.size())));
                }
            }
        }
        if (tokens.get(0).sort.equals("(")) {
            return nodeOf(tokens.subList(1, tokens.size() - 1));
        }
        Token t = tokens.get(0);
        return t.sort.equals("INT") ? new Node("INT", Integer.parseInt(t.text), null, null)
            : new Node(t.sort, 0, null, null);
    }

    // ---- laws

    private static int value(Node node, Map<String, Integer> vars) throws ByZero {
        if (node.op.equals("INT")) {
            return node.value;
        }
        if (node.left == null) {
            return vars.getOrDefault(node.op, 0);
        }
        int left = value(node.left, vars);
        int right = value(node.right, vars);
        switch (node.op) {
            case "+":
                return left + right;
            case "-":
                return left - right;
            case "*":
                return left * right;
            default:
                if (right == 0) {
                    throw new ByZero();
                }
                return (int) ((long) left / right);
        }
    }

    private int law(String name, int usual, Map<String, Integer> vars) {
        List<Branch> law = laws.get(name);
        if (law == null) {
            return usual;
        }
        try {
            for (Branch b : law) {
                if (b.less == null || value(b.less, vars) < value(b.more, vars)) {
                    return value(b.then, vars);
                }
            }
        } catch (ByZero e) {
            return 0;
        }
        throw new IllegalStateException();
    }

    private static int apart(State t) {
        return (t.x.length > 1 ? t.x[1] : 0) - (t.x.length > 0 ? t.x[0] : 0);
    }

    private static int tangles(State t) {
        int found = 0;
        for (int j = 0; j < t.x.length; j++) {
            for (int i = 0; i < j; i++) {
                found += t.x[i] > t.x[j] ? 1 : 0;
            }
        }
        return found;
    }

    private static int nods(State t) {
        int up = 0;
        for (boolean h : t.head) {
            up += h ? 1 : 0;
        }
        return up;
    }

    private static Map<String, Integer> scene(State t) {
        Map<String, Integer> vars = new HashMap<>();
        vars.put("apart", apart(t));
        vars.put("tangles", tangles(t));
        vars.put("pulls", t.pulls);
        vars.put("nods", nods(t));
        vars.put("hand", t.hand.length > 2 && t.hand[2] ? 1 : 0);
        return vars;
    }

    private boolean stays(State t, int string) {
        int[] g = strings.get(string);
        int x = t.x[g[0]] + g[2];
        return x >= 0 && x <= 9;
    }

    private boolean may(State t, int string) {
        int[] g = strings.get(string);
        if (t.verdict != 0 || g[1] != 2 && g[1] != t.side || !stays(t, string)) {
            return false;
        }
        Map<String, Integer> vars = scene(t);
        vars.put("side", t.side);
        vars.put("which", string);
        vars.put("at", t.x[g[0]]);
        return law("order", 1, vars) > 0;
    }

    private int judged(State t) {
        int told = law("verdict", 0, scene(t));
        return told < 0 ? 0 : told % 3;
    }

    private int votes(int child) {
        Map<String, Integer> vars = scene(s);
        vars.put("seat", seats.get(child));
        vars.put("which", child);
        int told = law("votes", 5, vars);
        return told < 0 ? 0 : told > 10 ? 10 : told;
    }

    // ---- pulls

    private void move(State t, int string) {
        int[] g = strings.get(string);
        t.x[g[0]] += g[2];
        if (g[3] == 1 || g[3] == 3) {
            t.head[g[0]] = !t.head[g[0]];
        }
        if (g[3] == 2 || g[3] == 3) {
            t.hand[g[0]] = !t.hand[g[0]];
        }
        t.pulled[string]++;
    }

    private void behind(State t) {
        t.pulls++;
        t.all++;
        t.side = t.side == 0 ? 1 : 0;
        t.verdict = judged(t);
        if (t.verdict != 0) {
            t.won[t.verdict]++;
            t.precedents.add(new int[] {apart(t), tangles(t), t.verdict});
            if (t.precedents.size() > 12) {
                t.precedents.remove(0);
            }
        }
    }

    /** A pull without storms. */
    private State behindPull(State t, int string) {
        State u = t.copy();
        move(u, string);
        behind(u);
        return u;
    }

    private static State behindPass(Oracle o, State t) {
        State u = t.copy();
        o.behind(u);
        return u;
    }

    private static int lot(int n, int seed, int which) {
        long mask = 0xffffffffL;
        long h = seed & mask;
        for (long it : new long[] {87, which & mask}) {
            h = ((h ^ it) * 1103515245L + 12345L) & mask;
            h = h ^ (h >> 15);
        }
        return (int) ((h >> 1) % n);
    }

    private void stormPull(State t, int string, int withSeed) {
        int pulled = string;
        if (lot(100, withSeed, 4 * t.all) < storm) {
            t.storms++;
            pulled = lot(strings.size(), withSeed, 4 * t.all + 1);
        }
        if (stays(t, pulled)) {
            move(t, pulled);
        }
        behind(t);
    }

    private void keepForUndo() {
        undone.push(s.copy());
        if (undone.size() > 40) {
            undone.removeLast();
        }
    }

    int pull(int string) {
        if (string < 0 || string >= strings.size()) {
            return -1;
        }
        if (!may(s, string)) {
            return -2;
        }
        keepForUndo();
        stormPull(s, string, seed);
        return s.verdict;
    }

    int pass() {
        if (s.verdict != 0) {
            return -2;
        }
        keepForUndo();
        behind(s);
        return s.pulls;
    }

    int open() {
        keepForUndo();
        openCase();
        return s.cases;
    }

    boolean undo() {
        if (undone.isEmpty()) {
            return false;
        }
        s = undone.pop();
        return true;
    }

    boolean hold(int slot) {
        if (slot < 0 || slot > 2) {
            return false;
        }
        slots[slot] = s.copy();
        return true;
    }

    boolean restore(int slot) {
        if (slot < 0 || slot > 2 || slots[slot] == null) {
            return false;
        }
        s = slots[slot].copy();
        undone.clear();
        return true;
    }

    // ---- what would be

    /** The first row by numbers of just so many pulls that ends as wanted, without a verdict before. */
    private List<Integer> row(State t, int pulls, Predicate<State> wanted) {
        if (pulls == 0) {
            return wanted.test(t) ? new ArrayList<>() : null;
        }
        for (int i = 0; i < strings.size(); i++) {
            if (may(t, i)) {
                List<Integer> rest = row(behindPull(t, i), pulls - 1, wanted);
                if (rest != null) {
                    rest.add(0, i);
                    return rest;
                }
            }
        }
        return null;
    }

    private List<Integer> fewest(int from, Predicate<State> wanted) {
        List<Integer> row = null;
        for (int n = from; n <= 5 && row == null && s.verdict == 0; n++) {
            row = row(s, n, wanted);
        }
        return row;
    }

    private boolean forces(State t, int side, int n) {
        if (t.verdict != 0) {
            return t.verdict == side + 1;
        }
        if (n == 0) {
            return false;
        }
        List<State> next = new ArrayList<>();
        for (int i = 0; i < strings.size(); i++) {
            if (may(t, i)) {
                next.add(behindPull(t, i));
            }
        }
        if (next.isEmpty()) {
            next.add(behindPass(this, t));
        }
        return t.side == side ? next.stream().anyMatch(u -> forces(u, side, n - 1))
            : next.stream().allMatch(u -> forces(u, side, n - 1));
    }

    private int strong(int n) {
        for (int i = 0; i < strings.size(); i++) {
            if (may(s, i) && forces(behindPull(s, i), s.side, n - 1)) {
                return i;
            }
        }
        return -2;
    }

    private int free(int side) {
        State t = s.copy();
        t.side = side;
        int found = 0;
        for (int i = 0; i < strings.size(); i++) {
            found += may(t, i) ? 1 : 0;
        }
        return found;
    }

    private int worn() {
        int most = Arrays.stream(s.pulled).max().orElse(0);
        for (int i = 0; i < s.pulled.length; i++) {
            if (most > 0 && s.pulled[i] == most) {
                return i;
            }
        }
        return -2;
    }

    /** Every way in which the children may vote, one by one. */
    private BigInteger[] jury() {
        BigInteger[] ways = new BigInteger[seats.size() + 1];
        Arrays.fill(ways, BigInteger.ZERO);
        for (int who = 0; who < 1 << seats.size(); who++) {
            BigInteger product = BigInteger.ONE;
            for (int c = 0; c < seats.size(); c++) {
                int v = votes(c);
                product = product.multiply(BigInteger.valueOf((who >> c & 1) == 1 ? v : 10 - v));
            }
            ways[Integer.bitCount(who)] = ways[Integer.bitCount(who)].add(product);
        }
        return ways;
    }

    private int share(BigInteger some, boolean below) {
        BigInteger all = BigInteger.TEN.pow(seats.size());
        return (below ? all : some).divide(all.gcd(some)).intValueExact();
    }

    private int half(boolean below) {
        BigInteger sum = BigInteger.ZERO;
        BigInteger[] ways = jury();
        for (int m = 0; m < ways.length; m++) {
            if (2 * m > seats.size()) {
                sum = sum.add(ways[m]);
            }
        }
        return share(sum, below);
    }

    private int mostLikely() {
        List<BigInteger> ways = Arrays.asList(jury());
        return ways.indexOf(Collections.max(ways));
    }

    private int precedent(int i, int what) {
        if (i == -1) {
            return s.precedents.size();
        }
        return i < 0 || i >= s.precedents.size() || what < 0 || what > 2 ? -1000 : s.precedents.get(i)[what];
    }

    private int nearest(int what) {
        if (what < 0 || what > 2) {
            return -1;
        }
        int best = -2;
        int far = 9999;
        for (int i = s.precedents.size() - 1; i >= 0; i--) {
            int[] p = s.precedents.get(i);
            int d = Math.abs(p[0] - apart(s)) + Math.abs(p[1] - tangles(s));
            if (d < far) {
                far = d;
                best = i;
            }
        }
        return best == -2 || what == 0 ? best : what == 1 ? far : s.precedents.get(best)[2];
    }

    private int clashes() {
        int found = 0;
        for (int[] p : s.precedents) {
            for (int[] q : s.precedents) {
                found += p[0] == q[0] && p[1] == q[1] && p[2] < q[2] ? 1 : 0;
            }
        }
        return found;
    }

    private int paint(int part) {
        if (part < -1 || part > 2) {
            return -1;
        }
        if (puppets.size() < 3) {
            return -2;
        }
        List<int[]> casts = new ArrayList<>();
        for (int code = 0; code < 125; code++) {
            int a = code / 25;
            int b = code / 5 % 5;
            int c = code % 5;
            if (a != b && b != c && a != c && Math.max(a, Math.max(b, c)) < puppets.size()) {
                int sum = Math.abs(9 - puppets.get(a)[1]) + Math.abs(5 - puppets.get(b)[1])
                    + Math.abs(1 - puppets.get(c)[1]);
                casts.add(new int[] {a, b, c, sum});
            }
        }
        casts.sort(Comparator.comparingInt(f -> f[3]));
        return casts.get(0)[part == -1 ? 3 : part];
    }

    private int storms(int string, int v, int seeds) {
        if (string < 0 || string >= strings.size() || v < 0 || v > 2 || seeds < 1 || seeds > 20) {
            return -1;
        }
        if (!may(s, string)) {
            return -2;
        }
        int found = 0;
        for (int i = 0; i < seeds; i++) {
            State t = s.copy();
            stormPull(t, string, seed + i);
            found += t.verdict == v ? 1 : 0;
        }
        return found;
    }

    // ---- behind the cloth

    /** All rows that fit, each with the places of the puppets behind it. */
    private List<int[][]> rows(int k, int n) {
        List<int[][]> fitting = new ArrayList<>();
        int all = 1;
        for (int i = 0; i < n; i++) {
            all *= strings.size();
        }
        for (int code = 0; code < all; code++) {
            int[] row = new int[n];
            int rest = code;
            for (int i = n - 1; i >= 0; i--) {
                row[i] = rest % strings.size();
                rest /= strings.size();
            }
            int[] ends = walked(row, k);
            if (ends != null) {
                fitting.add(new int[][] {row, ends});
            }
        }
        return fitting;
    }

    private int[] walked(int[] row, int k) {
        int[] x = s.x.clone();
        for (int i = 0; i < row.length; i++) {
            int[] g = strings.get(row[i]);
            x[g[0]] += g[2];
            if (x[g[0]] < 0 || x[g[0]] > 9) {
                return null;
            }
            for (int[] t : told.subList(0, k)) {
                if (t[1] == i + 1 && x[t[0]] != t[2]) {
                    return null;
                }
            }
        }
        return x;
    }

    private int sure(int k, int n, int i) {
        Set<Integer> found = new HashSet<>();
        for (int[][] row : rows(k, n)) {
            found.add(row[0][i]);
        }
        return found.size() == 1 ? found.iterator().next() : -2;
    }

    private int look(int k, int n) {
        List<int[][]> rows = rows(k, n);
        int best = -2;
        int least = Integer.MAX_VALUE;
        for (int p = 0; p < puppets.size() && !rows.isEmpty(); p++) {
            Map<Integer, Integer> left = new HashMap<>();
            for (int[][] row : rows) {
                left.merge(row[1][p], 1, Integer::sum);
            }
            int worst = Collections.max(left.values());
            if (worst < least) {
                least = worst;
                best = p;
            }
        }
        return best;
    }

    // ---- the face, by names

    private boolean isPuppet(int p) {
        return p >= 0 && p < puppets.size();
    }

    private boolean known(int k, int n) {
        return k >= 0 && k <= told.size() && n >= 0 && n <= 5;
    }

    long call(String name, int a, int b, int c, int[] words) {
        boolean over = s.verdict != 0;
        switch (name) {
            case "feed":
                if (tape.length() + 20 > 2000) {
                    return -1;
                }
                for (int w : words) {
                    for (int k = 3; k >= 0; k--) {
                        tape.append((char) (w >>> 8 * k & 255));
                    }
                }
                return tape.length();
            case "back":
                if (a < 0 || a > tape.length()) {
                    return -1;
                }
                tape.setLength(tape.length() - a);
                return tape.length();
            case "read":
                return read();
            case "place":
                return place;
            case "puppet":
                return !isPuppet(a) || b < 0 || b > 4 ? -1
                    : new int[] {s.x[a], s.head[a] ? 1 : 0, s.hand[a] ? 1 : 0, puppets.get(a)[1],
                        (int) strings.stream().filter(g -> g[0] == a).count()}[b];
            case "string":
                return a < 0 || a >= strings.size() || b < 0 || b > 4 ? -100 : b == 4 ? s.pulled[a] : strings.get(a)[b];
            case "court":
                return a < 0 || a > 5 ? -100
                    : new int[] {s.side, s.pulls, apart(s), tangles(s), nods(s), s.verdict}[a];
            case "may":
                return a < 0 || a >= strings.size() ? -1 : may(s, a) ? 1 : 0;
            case "pull":
                return pull(a);
            case "pass":
                return pass();
            case "open":
                return open();
            case "undo":
                return undo() ? 1 : 0;
            case "after":
                if (a < 0 || a >= strings.size() || b < 0 || b > 2 || !may(s, a)) {
                    return -1000;
                }
                State t = behindPull(s, a);
                return b == 0 ? tangles(t) : b == 1 ? apart(t) : t.verdict;
            case "shortest":
                if (a < 1 || a > 2 || b < 0 || b > 1) {
                    return -1;
                }
                List<Integer> row = fewest(1, u -> u.verdict == a);
                return row == null ? -2 : b == 0 ? row.size() : row.get(0);
            case "force":
                return a < 0 || a > 1 || b < 1 || b > 5 ? -1 : !over && forces(s, a, b) ? 1 : 0;
            case "straight":
                List<Integer> straight = fewest(0, u -> u.verdict == 0 && tangles(u) == 0);
                return straight == null ? -2 : straight.size();
            case "reach":
                if (!isPuppet(a) || b < 0 || b > 9) {
                    return -1;
                }
                List<Integer> reach = fewest(0, u -> u.verdict == 0 && u.x[a] == b);
                return reach == null ? -2 : reach.size();
            default:
                return callMore(name, a, b, c);
        }
    }

    private long callMore(String name, int a, int b, int c) {
        switch (name) {
            case "strong":
                return a < 1 || a > 5 ? -1 : strong(a);
            case "free":
                return a < 0 || a > 1 ? -1 : free(a);
            case "worn":
                return worn();
            case "verdicts":
                return mostLikely();
            case "half":
                return half((a & 1) == 1);
            case "jury":
                return a < 0 || a > seats.size() ? -1 : share(jury()[a], (b & 1) == 1);
            case "precedent":
                return precedent(a, b);
            case "nearest":
                return nearest(a);
            case "clashes":
                return clashes();
            case "paint":
                return paint(a);
            case "storms":
                return storms(a, b, c);
            case "tell":
                if (told.size() >= 20 || !isPuppet(a) || b < 1 || b > 5 || c < 0 || c > 9) {
                    return -1;
                }
                told.add(new int[] {a, b, c});
                return told.size() - 1;
            case "forget":
                int were = told.size();
                told.clear();
                return were;
            case "cloth":
                return !known(a, b) ? -1 : rows(a, b).size();
            case "sure":
                return !known(a, b) || c < 0 || c >= b ? -1 : sure(a, b, c);
            case "look":
                return !known(a, b) ? -1 : look(a, b);
            case "hold":
                return hold(a) ? 1 : 0;
            case "restore":
                return restore(a) ? 1 : 0;
            case "count":
                return count(a);
            default:
                throw new IllegalArgumentException(name);
        }
    }

    private int count(int what) {
        int bits = 0;
        for (int i = 0; i < strings.size(); i++) {
            bits += may(s, i) ? 1 << i : 0;
        }
        int held = (int) Arrays.stream(slots).filter(slot -> slot != null).count();
        int[] counts = {puppets.size(), strings.size(), seats.size(), s.cases, s.all, s.precedents.size(), s.storms,
            tape.length(), undone.size(), told.size(), held, s.won[1], s.won[2], bits, s.verdict != 0 ? 1 : 0};
        return what < 0 || what > 14 ? -1 : counts[what];
    }
}
