import java.math.BigInteger;
import java.util.ArrayList;
import java.util.HashMap;
import java.util.LinkedHashSet;
import java.util.List;
import java.util.Map;
import java.util.Set;
import java.util.TreeSet;

/**
 * The document once more, written in another way (trees, sets of members, texts that are put together and compared),
 * to be compared with the program call by call.
 */
final class Model {
    private static final BigInteger LIMIT = BigInteger.ONE.shiftLeft(62);

    private static final class Wrong extends RuntimeException {
        private static final long serialVersionUID = 1;
        final int place;

        Wrong(int place) {
            this.place = place;
        }
    }

    private static final class Out extends RuntimeException {
        private static final long serialVersionUID = 1;
    }

    private static final class Node {
        final char op;
        final char letter;
        final List<Node> parts = new ArrayList<>();

        Node(char op, char letter) {
            this.op = op;
            this.letter = letter;
        }

        String text() {
            StringBuilder text = new StringBuilder().append(op);
            if (letter != 0) {
                text.append(letter);
            }
            for (Node part : parts) {
                text.append(part.text());
            }
            return text.toString();
        }

        Set<Character> free() {
            Set<Character> free = new TreeSet<>();
            if (isLetter(op)) {
                free.add(op);
            }
            for (int k = 0; k < parts.size(); k++) {
                Set<Character> inPart = parts.get(k).free();
                if (letter != 0 && k == 1) {
                    inPart.remove(letter);
                }
                free.addAll(inPart);
            }
            return free;
        }
    }

    private record Function(int takes, Node body) { }

    private record Law(Node formula, String text, int rests) { }

    private final long[] values = new long[8];
    private final Map<Character, Function> functions = new HashMap<>();
    private final List<Law> laws = new ArrayList<>();
    private String buffer = "";

    private static boolean isLetter(int c) {
        return "abcdefgh".indexOf(c) >= 0;
    }

    // Reading

    private final class Parse {
        final String text;
        final char own;
        final int takes;
        int at = 0;

        Parse(String text, char own, int takes) {
            this.text = text;
            this.own = own;
            this.takes = takes;
        }

        char now() {
            return at < text.length() ? text.charAt(at) : ' ';
        }

        Node whole(boolean formula) {
            Node node = node(formula, 1, new ArrayList<>());
            if (at < text.length()) {
                throw new Wrong(at);
            }
            return node;
        }

        /** A binding is its letter, and 1 when it is over what is given first, else 0. */
        Node node(boolean formula, int depth, List<int[]> bindings) {
            char c = now();
            int kids = depth > 12 ? -1 : formula ? formulaParts(c) : termParts(c);
            if (kids < 0) {
                throw new Wrong(at);
            }
            if (!formula && isLetter(c) && own != 0 && nearest(c, bindings) < 0 && c - 'a' >= takes) {
                throw new Wrong(at);
            }
            at++;
            if ("{IEL".indexOf(c) >= 0) {
                return binding(c, depth, bindings);
            }
            if (own != 0 && c == own && (!isLetter(now()) || nearest(now(), bindings) != 1)) {
                throw new Wrong(at);
            }
            Node node = new Node(c, (char) 0);
            for (int k = 0; k < kids; k++) {
                node.parts.add(node("!^v>".indexOf(c) >= 0, depth + 1, bindings));
            }
            return node;
        }

        Node binding(char c, int depth, List<int[]> bindings) {
            char letter = now();
            if (!isLetter(letter)) {
                throw new Wrong(at);
            }
            at++;
            Node node = new Node(c, letter);
            node.parts.add(node(false, depth + 1, bindings));
            boolean overGiven = node.parts.get(0).text().equals("a") && nearest('a', bindings) < 0;
            List<int[]> inside = new ArrayList<>(bindings);
            inside.add(new int[] {letter, overGiven ? 1 : 0});
            node.parts.add(node(c != 'I', depth + 1, inside));
            return node;
        }

        int nearest(char letter, List<int[]> bindings) {
            for (int k = bindings.size() - 1; k >= 0; k--) {
                if (bindings.get(k)[0] == letter) {
                    return bindings.get(k)[1];
                }
            }
            return -1;
        }

        int termParts(char c) {
            if (Character.isDigit(c) || isLetter(c)) {
                return 0;
            }
            if (c >= 'A' && c <= 'D') {
                return c == own ? takes : functions.containsKey(c) ? functions.get(c).takes() : -1;
            }
            return "UPT".indexOf(c) >= 0 ? 1 : "+|&-{I".indexOf(c) >= 0 ? 2 : -1;
        }

        int formulaParts(char c) {
            return c == '!' ? 1 : "<=^v>EL".indexOf(c) >= 0 ? 2 : -1;
        }
    }

    private Node read(boolean formula) {
        return new Parse(buffer, (char) 0, 0).whole(formula);
    }

    // Working out

    private final class Work {
        int spent = 0;

        void pay(int depth) {
            spent++;
            if (spent > 3000 || depth > 32) {
                throw new Out();
            }
        }

        BigInteger term(Node node, Map<Character, BigInteger> env, int depth) {
            pay(depth);
            if (Character.isDigit(node.op)) {
                return BigInteger.valueOf(node.op - '0');
            }
            if (isLetter(node.op)) {
                return env.get(node.op);
            }
            BigInteger s = term(node.parts.get(0), env, depth + 1);
            Set<BigInteger> members = members(s);
            Set<BigInteger> result = new TreeSet<>();
            switch (node.op) {
                case 'U' -> members.forEach(m -> result.addAll(members(m)));
                case 'P' -> {
                    if (s.compareTo(BigInteger.valueOf(62)) >= 0) {
                        throw new Out();
                    }
                    for (int c = 0; c < 62; c++) {
                        if (members.containsAll(members(BigInteger.valueOf(c)))) {
                            result.add(BigInteger.valueOf(c));
                        }
                    }
                }
                case 'T' -> below(members, result);
                case '{', 'I' -> {
                    for (BigInteger m : members) {
                        Map<Character, BigInteger> inside = new HashMap<>(env);
                        inside.put(node.letter, m);
                        if (node.op == 'I') {
                            result.add(term(node.parts.get(1), inside, depth + 1));
                        } else if (formula(node.parts.get(1), inside, depth + 1)) {
                            result.add(m);
                        }
                    }
                }
                case '+', '|', '&', '-' -> {
                    BigInteger t = term(node.parts.get(1), env, depth + 1);
                    result.addAll(members);
                    switch (node.op) {
                        case '+' -> result.add(t);
                        case '|' -> result.addAll(members(t));
                        case '&' -> result.retainAll(members(t));
                        default -> result.removeAll(members(t));
                    }
                }
                default -> {
                    return given(node, s, env, depth);
                }
            }
            return code(result);
        }

        BigInteger given(Node node, BigInteger first, Map<Character, BigInteger> env, int depth) {
            Map<Character, BigInteger> inside = new HashMap<>();
            inside.put('a', first);
            for (int k = 1; k < node.parts.size(); k++) {
                inside.put((char) ('a' + k), term(node.parts.get(k), env, depth + 1));
            }
            return term(functions.get(node.op).body(), inside, depth + 1);
        }

        boolean formula(Node node, Map<Character, BigInteger> env, int depth) {
            pay(depth);
            switch (node.op) {
                case '<', '=' -> {
                    BigInteger s = term(node.parts.get(0), env, depth + 1);
                    BigInteger t = term(node.parts.get(1), env, depth + 1);
                    return node.op == '=' ? s.equals(t) : members(t).contains(s);
                }
                case 'E', 'L' -> {
                    boolean some = false;
                    boolean all = true;
                    for (BigInteger m : members(term(node.parts.get(0), env, depth + 1))) {
                        Map<Character, BigInteger> inside = new HashMap<>(env);
                        inside.put(node.letter, m);
                        boolean holds = formula(node.parts.get(1), inside, depth + 1);
                        some |= holds;
                        all &= holds;
                    }
                    return node.op == 'E' ? some : all;
                }
                default -> {
                    boolean f = formula(node.parts.get(0), env, depth + 1);
                    boolean g = node.op != '!' && formula(node.parts.get(1), env, depth + 1);
                    return connect(node.op, f, g);
                }
            }
        }
    }

    private static boolean connect(char op, boolean f, boolean g) {
        return op == '!' ? !f : op == '^' ? f && g : op == 'v' ? f || g : !f || g;
    }

    private static Set<BigInteger> members(BigInteger code) {
        Set<BigInteger> members = new TreeSet<>();
        for (int c = 0; c < code.bitLength(); c++) {
            if (code.testBit(c)) {
                members.add(BigInteger.valueOf(c));
            }
        }
        return members;
    }

    private static void below(Set<BigInteger> members, Set<BigInteger> result) {
        for (BigInteger m : members) {
            result.add(m);
            below(members(m), result);
        }
    }

    private static BigInteger code(Set<BigInteger> members) {
        BigInteger code = BigInteger.ZERO;
        for (BigInteger m : members) {
            if (m.compareTo(BigInteger.valueOf(62)) >= 0) {
                throw new Out();
            }
            code = code.setBit(m.intValue());
        }
        return code;
    }

    private Map<Character, BigInteger> environment() {
        Map<Character, BigInteger> env = new HashMap<>();
        for (int k = 0; k < 8; k++) {
            env.put((char) ('a' + k), BigInteger.valueOf(values[k]));
        }
        return env;
    }

    // Replacing

    /** Null when there is none such. */
    private static String with(Node node, Map<Character, Node> terms, Set<Character> bound) {
        if (isLetter(node.op) && !bound.contains(node.op) && terms.containsKey(node.op)) {
            Node term = terms.get(node.op);
            Set<Character> caught = new TreeSet<>(term.free());
            caught.retainAll(bound);
            return caught.isEmpty() ? term.text() : null;
        }
        StringBuilder text = new StringBuilder().append(node.op);
        if (node.letter != 0) {
            text.append(node.letter);
        }
        for (int k = 0; k < node.parts.size(); k++) {
            Set<Character> inside = new TreeSet<>(bound);
            if (node.letter != 0 && k == 1) {
                inside.add(node.letter);
            }
            String part = with(node.parts.get(k), terms, inside);
            if (part == null) {
                return null;
            }
            text.append(part);
        }
        return text.toString();
    }

    private static String with(Node node, char letter, Node term) {
        return with(node, Map.of(letter, term), Set.of());
    }

    // The rules

    private boolean allows(int rule, Node it, int i, int j) {
        String text = it.text();
        switch (rule) {
            case 0:
                return alwaysHolds(it);
            case 9:
                return laws.get(j).text().equals(">" + laws.get(i).text() + text);
            case 10:
                return isInstance(it, laws.get(i).formula(), (char) ('a' + j));
            case 11:
                return it.op == 'L' && !it.parts.get(0).free().contains(it.letter)
                        && laws.get(i).text().equals("><" + text.substring(1));
            case 12:
                return induces(it, laws.get(i).text(), laws.get(j).text());
            case 13:
                return unfolds(it);
            default:
                return hasForm(rule, it, text);
        }
    }

    private static Node at(Node node, int... path) {
        Node now = node;
        for (int k : path) {
            if (now == null || k >= now.parts.size()) {
                return null;
            }
            now = now.parts.get(k);
        }
        return now;
    }

    private static String text(Node node) {
        return node == null ? "?" : node.text();
    }

    private static char letter(Node node) {
        return node == null || node.letter == 0 ? '?' : node.letter;
    }

    private static boolean hasForm(int rule, Node it, String text) {
        switch (rule) {
            case 1:
                return text.equals("=" + text(at(it, 0)) + text(at(it, 0)));
            case 2: {
                String s = text(at(it, 0, 0));
                String t = text(at(it, 0, 1));
                String u = text(at(it, 1, 0, 1));
                return text.equals(">=" + s + t + "><" + s + u + "<" + t + u);
            }
            case 3: {
                String s = text(at(it, 0, 0));
                String t = text(at(it, 0, 1));
                String u = text(at(it, 1, 0, 0));
                return text.equals(">=" + s + t + "><" + u + s + "<" + u + t);
            }
            case 4:
                return text.equals("!<" + text(at(it, 0, 0)) + "0");
            case 5: {
                String u = text(at(it, 0, 0));
                String s = text(at(it, 0, 1, 0));
                String t = text(at(it, 0, 1, 1));
                return text.equals("><" + u + "+" + s + t + "v<" + u + s + "=" + u + t);
            }
            case 6: {
                String u = text(at(it, 1, 0));
                String s = text(at(it, 1, 1, 0));
                String t = text(at(it, 1, 1, 1));
                return text.equals(">v<" + u + s + "=" + u + t + "<" + u + "+" + s + t);
            }
            case 7: {
                Node s = at(it, 1, 0);
                Node t = at(it, 1, 1);
                char x = letter(at(it, 0, 0));
                return s != null && t != null && !s.free().contains(x) && !t.free().contains(x)
                        && text.equals(">^L" + x + text(s) + "<" + x + text(t) + "L" + x + text(t) + "<" + x + text(s)
                                + "=" + text(s) + text(t));
            }
            case 8: {
                char x = letter(at(it, 0));
                Node f = at(it, 0, 1);
                Node t = at(it, 1, 0, 0);
                String g = f == null || t == null ? null : with(f, x, t);
                String s = text(at(it, 0, 0));
                return g != null && text.equals(">L" + x + s + text(f) + "><" + text(t) + s + g);
            }
            case 14: {
                Node u = at(it, 0, 0);
                Node f = at(it, 0, 1, 1);
                char x = letter(at(it, 0, 1));
                String s = text(at(it, 0, 1, 0));
                String g = f == null || u == null ? null : with(f, x, u);
                return g != null && text.equals("><" + text(u) + "{" + x + s + text(f) + "^<" + text(u) + s + g);
            }
            case 15: {
                Node u = at(it, 1, 0);
                Node f = at(it, 1, 1, 1);
                char x = letter(at(it, 1, 1));
                String s = text(at(it, 1, 1, 0));
                String g = f == null || u == null ? null : with(f, x, u);
                return g != null && text.equals(">^<" + text(u) + s + g + "<" + text(u) + "{" + x + s + text(f));
            }
            default: {
                Node some = at(it, rule - 16);
                String inside = letter(some) + text(at(some, 0));
                String f = text(at(some, 1));
                String e = "E" + inside + f;
                String l = "!L" + inside + "!" + f;
                return text.equals(rule == 16 ? ">" + e + l : ">" + l + e);
            }
        }
    }

    private static boolean alwaysHolds(Node it) {
        Set<String> parts = new LinkedHashSet<>();
        collect(it, parts);
        if (parts.size() > 6) {
            return false;
        }
        for (int k = 0; k < 1 << parts.size(); k++) {
            Map<String, Boolean> values = new HashMap<>();
            int shift = 0;
            for (String part : parts) {
                values.put(part, (k >> shift & 1) != 0);
                shift++;
            }
            if (!holds(it, values)) {
                return false;
            }
        }
        return true;
    }

    private static void collect(Node node, Set<String> parts) {
        if ("!^v>".indexOf(node.op) < 0) {
            parts.add(node.text());
        } else {
            node.parts.forEach(part -> collect(part, parts));
        }
    }

    private static boolean holds(Node node, Map<String, Boolean> values) {
        if ("!^v>".indexOf(node.op) < 0) {
            return values.get(node.text());
        }
        return connect(node.op, holds(node.parts.get(0), values), node.op != '!' && holds(node.parts.get(1), values));
    }

    /** Tries all terms that stand in the formula; another one could not stand for a letter that is free in the law. */
    private static boolean isInstance(Node it, Node law, char letter) {
        List<Node> terms = new ArrayList<>();
        terms.add(new Node('0', (char) 0));
        allTerms(it, terms);
        for (Node term : terms) {
            if (it.text().equals(with(law, letter, term))) {
                return true;
            }
        }
        return false;
    }

    private static void allTerms(Node node, List<Node> terms) {
        if ("!^v><=EL".indexOf(node.op) < 0) {
            terms.add(node);
        }
        node.parts.forEach(part -> allTerms(part, terms));
    }

    private static boolean induces(Node it, String ofZero, String step) {
        for (char x = 'a'; x <= 'h'; x++) {
            for (char y = 'a'; y <= 'h'; y++) {
                Node adjoined = new Node('+', (char) 0);
                adjoined.parts.add(new Node(x, (char) 0));
                adjoined.parts.add(new Node(y, (char) 0));
                String next = with(it, x, adjoined);
                if (x != y && !it.free().contains(y) && next != null
                        && ofZero.equals(with(it, x, new Node('0', (char) 0)))
                        && step.equals(">" + it.text() + next)) {
                    return true;
                }
            }
        }
        return false;
    }

    private boolean unfolds(Node it) {
        Node left = at(it, 0);
        if (it.op != '=' || !functions.containsKey(left.op)) {
            return false;
        }
        Map<Character, Node> terms = new HashMap<>();
        for (int k = 0; k < left.parts.size(); k++) {
            terms.put((char) ('a' + k), left.parts.get(k));
        }
        return text(at(it, 1)).equals(with(functions.get(left.op).body(), terms, Set.of()));
    }

    // The face

    int type(long characters, int n) {
        if (n < 1 || n > 8) {
            return -1;
        }
        String more = "";
        for (int k = n - 1; k >= 0; k--) {
            int c = (int) (characters >>> 8 * k & 255);
            if (c < 33 || c > 126) {
                return -1;
            }
            more += (char) c;
        }
        if ((buffer + more).length() > 60) {
            return -2;
        }
        buffer += more;
        return buffer.length();
    }

    int clear() {
        int had = buffer.length();
        buffer = "";
        return had;
    }

    boolean let(int x, long code) {
        if (x < 0 || x > 7 || code < 0 || BigInteger.valueOf(code).compareTo(LIMIT) >= 0) {
            return false;
        }
        values[x] = code;
        return true;
    }

    long eval() {
        try {
            return new Work().term(read(false), environment(), 1).longValueExact();
        } catch (Wrong wrong) {
            return -100 - wrong.place;
        } catch (Out out) {
            return -3;
        } finally {
            buffer = "";
        }
    }

    int truth() {
        try {
            return new Work().formula(read(true), environment(), 1) ? 1 : 0;
        } catch (Wrong wrong) {
            return -100 - wrong.place;
        } catch (Out out) {
            return -3;
        } finally {
            buffer = "";
        }
    }

    int define(int f, int n) {
        char name = (char) ('A' + f);
        if (f < 0 || f > 3 || functions.containsKey(name) || n < 1 || n > 3) {
            return -1;
        }
        try {
            functions.put(name, new Function(n, new Parse(buffer, name, n).whole(false)));
            return 0;
        } catch (Wrong wrong) {
            return -100 - wrong.place;
        } finally {
            buffer = "";
        }
    }

    int prove(int rule, int i, int j) {
        boolean both = rule == 9 || rule == 12;
        boolean one = both || rule == 10 || rule == 11;
        if (rule < 0 || rule > 17 || one && (i < 0 || i >= laws.size()) || both && (j < 0 || j >= laws.size())
                || rule == 10 && (j < 0 || j > 7)) {
            return -1;
        }
        try {
            Node it = read(true);
            if (laws.size() == 16) {
                return -2;
            }
            if (!allows(rule, it, i, j)) {
                return -4;
            }
            int rests = 1 << laws.size() | (one ? laws.get(i).rests() : 0) | (both ? laws.get(j).rests() : 0);
            laws.add(new Law(it, it.text(), rests));
            return laws.size() - 1;
        } catch (Wrong wrong) {
            return -100 - wrong.place;
        } finally {
            buffer = "";
        }
    }

    int theorems() {
        return laws.size();
    }

    String lawText(int i) {
        return laws.get(i).text();
    }

    int theorem(int i, int k) {
        boolean there = i >= 0 && i < laws.size() && k >= 0 && k < laws.get(i).text().length();
        return there ? laws.get(i).text().charAt(k) : -1;
    }

    int rests(int i) {
        return i >= 0 && i < laws.size() ? laws.get(i).rests() : -1;
    }

    int refute(int k) {
        if (k < 1 || k > 8) {
            return -1;
        }
        try {
            Node it = read(true);
            List<Character> free = new ArrayList<>(it.free());
            if (free.size() > 2) {
                return -1;
            }
            for (int v = 0; v < 64; v++) {
                int first = v / 8;
                int second = v % 8;
                if (first >= (free.size() > 0 ? k : 1) || second >= (free.size() > 1 ? k : 1)) {
                    continue;
                }
                Map<Character, BigInteger> env = new HashMap<>();
                if (free.size() > 0) {
                    env.put(free.get(0), BigInteger.valueOf(first));
                }
                if (free.size() > 1) {
                    env.put(free.get(1), BigInteger.valueOf(second));
                }
                if (fails(it, env)) {
                    return 64 * first + second;
                }
            }
            return -4;
        } catch (Wrong wrong) {
            return -100 - wrong.place;
        } finally {
            buffer = "";
        }
    }

    private boolean fails(Node it, Map<Character, BigInteger> env) {
        try {
            return !new Work().formula(it, env, 1);
        } catch (Out out) {
            return false;
        }
    }

    int size(long code) {
        return code < 0 || BigInteger.valueOf(code).compareTo(LIMIT) >= 0 ? -1 : members(BigInteger.valueOf(code)).size();
    }

    int rank(long code) {
        if (code < 0 || BigInteger.valueOf(code).compareTo(LIMIT) >= 0) {
            return -1;
        }
        int rank = 0;
        for (BigInteger m : members(BigInteger.valueOf(code))) {
            rank = Math.max(rank, 1 + rank(m.longValue()));
        }
        return rank;
    }
}
