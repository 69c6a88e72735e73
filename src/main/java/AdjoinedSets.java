import java.util.Arrays;

/** Hereditarily finite sets with codes less than 2^62, a language for them, and proofs of laws about them. */
public final class AdjoinedSets {
    public static final int BAD = -1;
    public static final int FULL = -2;
    public static final int OUT = -3;
    public static final int NO = -4;

    private static final int MOST_CHARACTERS = 60;
    private static final int MOST_THEOREMS = 16;
    private static final int LETTERS = 8;
    private static final int FUNCTIONS = 4;
    private static final int MOST_TAKEN = 3;
    private static final int MEMBERS = 62;
    private static final long MOST_CODE = (1L << MEMBERS) - 1;
    private static final int DEEPEST = 12;
    private static final int MOST_OPEN = 32;
    private static final int MOST_SPENT = 3000;
    private static final int WRONG = -100;
    // Members of a set here have codes less than 2^6, theirs less than 6, and so on: no rank is greater.
    private static final int MOST_RANK = 5;

    private final long[] values = new long[LETTERS];
    private final Text buffer = new Text();
    private final Function[] functions = new Function[FUNCTIONS];
    private final Laws laws = new Laws();
    private final Reader reader;
    private final Worker worker;
    private final Rules rules;

    public AdjoinedSets() {
        for (int f = 0; f < FUNCTIONS; f++) {
            functions[f] = new Function();
        }
        reader = new Reader(buffer, functions);
        worker = new Worker(functions);
        rules = new Rules(buffer, functions, laws);
    }

    public int type(long characters, int n) {
        if (n < 1 || n > 8) {
            return BAD;
        }
        for (int k = 0; k < n; k++) {
            int c = byteAt(characters, k);
            if (c < 33 || c > 126) {
                return BAD;
            }
        }
        if (buffer.length() + n > MOST_CHARACTERS) {
            return FULL;
        }
        for (int k = n - 1; k >= 0; k--) {
            buffer.add(byteAt(characters, k));
        }
        return buffer.length();
    }

    public int clear() {
        int had = buffer.length();
        buffer.empty();
        return had;
    }

    public boolean let(int x, long code) {
        if (x < 0 || x >= LETTERS || !isCode(code)) {
            return false;
        }
        values[x] = code;
        return true;
    }

    public long eval() {
        long answer = reader.readTerm();
        if (answer >= 0) {
            giveValues();
            answer = worker.codeOf(buffer);
        }
        buffer.empty();
        return answer;
    }

    public int truth() {
        int answer = reader.readFormula();
        if (answer >= 0) {
            giveValues();
            answer = worker.truthOf(buffer);
        }
        buffer.empty();
        return answer;
    }

    public int define(int f, int n) {
        if (f < 0 || f >= FUNCTIONS || functions[f].takes() != 0 || n < 1 || n > MOST_TAKEN) {
            return BAD;
        }
        int answer = reader.readBody(f, n);
        if (answer >= 0) {
            functions[f].become(n, buffer);
            answer = 0;
        }
        buffer.empty();
        return answer;
    }

    public int prove(int rule, int i, int j) {
        if (rule < 0 || rule > 17 || !namesWhatIsThere(rule, i, j)) {
            return BAD;
        }
        int answer = reader.readFormula();
        if (answer >= 0) {
            answer = FULL;
            if (laws.count() < MOST_THEOREMS) {
                answer = rules.allow(rule, i, j) ? laws.add(buffer, restsByRule(rule, i, j)) : NO;
            }
        }
        buffer.empty();
        return answer;
    }

    public int theorems() {
        return laws.count();
    }

    public int theorem(int i, int k) {
        if (!laws.has(i) || k < 0 || k >= laws.text(i).length()) {
            return BAD;
        }
        return laws.text(i).at(k);
    }

    public int rests(int i) {
        return laws.has(i) ? laws.restsOf(i) : BAD;
    }

    public int refute(int k) {
        if (k < 1 || k > 8) {
            return BAD;
        }
        int answer = reader.readFormula();
        if (answer >= 0) {
            int free = buffer.freeIn(0, 1);
            answer = Integer.bitCount(free) > 2 ? BAD : firstRefuting(free, k);
        }
        buffer.empty();
        return answer;
    }

    public int size(long code) {
        return isCode(code) ? Long.bitCount(code) : BAD;
    }

    public int rank(long code) {
        return isCode(code) ? rankOf(code, 0) : BAD;
    }

    private static int byteAt(long characters, int k) {
        return (int) (characters >> (8 * k)) & 255;
    }

    private static boolean isCode(long code) {
        return code >= 0 && code <= MOST_CODE;
    }

    private static boolean isMember(long set, int c) {
        return (set >> c & 1) != 0;
    }

    private static int rankOf(long code, int depth) {
        int most = 0;
        if (depth < MOST_RANK) {
            for (int c = 0; c < MEMBERS && code >> c != 0; c++) {
                if (isMember(code, c)) {
                    most = Math.max(most, rankOf(c, depth + 1) + 1);
                }
            }
        }
        return most;
    }

    private void giveValues() {
        for (int x = 0; x < LETTERS; x++) {
            worker.give(x, values[x]);
        }
    }

    private boolean namesWhatIsThere(int rule, int i, int j) {
        switch (rule) {
            case 9:
            case 12:
                return laws.has(i) && laws.has(j);
            case 10:
                return laws.has(i) && j >= 0 && j < LETTERS;
            case 11:
                return laws.has(i);
            default:
                return true;
        }
    }

    private int restsByRule(int rule, int i, int j) {
        switch (rule) {
            case 9:
            case 12:
                return laws.restsOf(i) | laws.restsOf(j);
            case 10:
            case 11:
                return laws.restsOf(i);
            default:
                return 0;
        }
    }

    /** Where there is no first or no second letter, just 0 is tried for it. */
    private int firstRefuting(int free, int k) {
        int first = lowestLetter(free);
        int second = lowestLetter(free & (free - 1));
        int firstEnd = first < LETTERS ? k : 1;
        int secondEnd = second < LETTERS ? k : 1;
        for (int v = 0; v < firstEnd; v++) {
            for (int w = 0; w < secondEnd; w++) {
                worker.give(first, v);
                worker.give(second, w);
                if (worker.truthOf(buffer) == 0) {
                    return 64 * v + w;
                }
            }
        }
        return NO;
    }

    /** LETTERS when there is none. */
    private static int lowestLetter(int letters) {
        int x = 0;
        while (x < LETTERS && (letters >> x & 1) == 0) {
            x++;
        }
        return x;
    }

    private static boolean isDigit(int c) {
        return c >= '0' && c <= '9';
    }

    private static boolean isLetter(int c) {
        return c >= 'a' && c < 'a' + LETTERS;
    }

    private static boolean isFunction(int c) {
        return c >= 'A' && c < 'A' + FUNCTIONS;
    }

    private static boolean isBinder(int c) {
        return c == '{' || c == 'I' || c == 'E' || c == 'L';
    }

    private static boolean isConnective(int c) {
        return c == '!' || c == '^' || c == 'v' || c == '>';
    }

    /**
     * Characters in a row. Since operators stand first, each part has a place of its own where it starts; with its
     * end, which reading leaves here, that is the whole tree.
     */
    private static final class Text {
        private final char[] characters = new char[MOST_CHARACTERS];
        private final int[] ends = new int[MOST_CHARACTERS];
        private int length = 0;

        int length() {
            return length;
        }

        void empty() {
            length = 0;
        }

        void add(int c) {
            if (length < MOST_CHARACTERS) {
                characters[length] = (char) c;
                length++;
            }
        }

        /** 0, which is no character of the language, where there is none. */
        int at(int place) {
            return place >= 0 && place < length ? characters[place] : 0;
        }

        void setEnd(int place, int end) {
            if (place >= 0 && place < length) {
                ends[place] = end;
            }
        }

        int endOf(int place) {
            return place >= 0 && place < length ? ends[place] : length;
        }

        int firstPartOf(int place) {
            return place + (isBinder(at(place)) ? 2 : 1);
        }

        void copy(Text other) {
            System.arraycopy(other.characters, 0, characters, 0, other.length);
            System.arraycopy(other.ends, 0, ends, 0, other.length);
            length = other.length;
        }

        /** Whether the characters of another text from .. to - 1 stand at a place here. */
        boolean has(int place, Text other, int from, int to) {
            for (int k = 0; k < MOST_CHARACTERS && from + k < to; k++) {
                int c = at(place + k);
                if (c == 0 || c != other.at(from + k)) {
                    return false;
                }
            }
            return true;
        }

        /** The letters (a as 1, b as 2, c as 4 ..) that are free in the part at a place; depth is 1 for the caller. */
        int freeIn(int place, int depth) {
            int c = at(place);
            if (isLetter(c)) {
                return 1 << (c - 'a');
            }
            int free = 0;
            int part = firstPartOf(place);
            int end = endOf(place);
            for (int k = 0; k < MOST_TAKEN && part < end && depth < DEEPEST; k++) {
                int inPart = freeIn(part, depth + 1);
                free |= k == 1 ? inPart & ~boundBy(place) : inPart;
                part = endOf(part);
            }
            return free;
        }

        /** The letter that the operator at a place binds in its second part, as in freeIn; 0 when it binds none. */
        int boundBy(int place) {
            return isBinder(at(place)) && isLetter(at(place + 1)) ? 1 << (at(place + 1) - 'a') : 0;
        }
    }

    /** A function that takes no terms is not defined yet. */
    private static final class Function {
        private final Text body = new Text();
        private int takes = 0;

        int takes() {
            return takes;
        }

        Text body() {
            return body;
        }

        void become(int n, Text text) {
            takes = n;
            body.copy(text);
        }
    }

    /** The theorems, each with the set of those it rests on. */
    private static final class Laws {
        private final Text[] texts = new Text[MOST_THEOREMS];
        private final int[] rest = new int[MOST_THEOREMS];
        private int count = 0;

        Laws() {
            for (int i = 0; i < MOST_THEOREMS; i++) {
                texts[i] = new Text();
            }
        }

        int count() {
            return count;
        }

        boolean has(int i) {
            return i >= 0 && i < count;
        }

        Text text(int i) {
            return texts[i];
        }

        int restsOf(int i) {
            return rest[i];
        }

        int add(Text text, int restOfNamed) {
            if (count >= MOST_THEOREMS) {
                return FULL;
            }
            texts[count].copy(text);
            rest[count] = restOfNamed | (1 << count);
            count++;
            return count - 1;
        }
    }

    /** Reads the buffer; each method answers the place behind what it read, or WRONG less the wrong place. */
    private static final class Reader {
        private static final int FREE = 0;
        private static final int BOUND = 1;
        // Bound over what a function is given first: the letters with which it may call itself.
        private static final int BOUND_OVER_GIVEN = 2;
        private static final int NONE = -1;

        private final Text text;
        private final Function[] functions;
        private final int[] scope = new int[LETTERS];
        private int own = NONE;
        private int ownTakes = 0;
        private int mayBeFree = LETTERS;

        Reader(Text text, Function[] functions) {
            this.text = text;
            this.functions = functions;
        }

        int readTerm() {
            start(NONE, 0, LETTERS);
            return whole(term(0, 1));
        }

        int readFormula() {
            start(NONE, 0, LETTERS);
            return whole(formula(0, 1));
        }

        int readBody(int f, int takes) {
            start(f, takes, takes);
            return whole(term(0, 1));
        }

        private void start(int f, int takes, int letters) {
            own = f;
            ownTakes = takes;
            mayBeFree = letters;
            Arrays.fill(scope, FREE);
        }

        private int whole(int end) {
            return end >= 0 && end != text.length() ? wrong(end) : end;
        }

        private static int wrong(int place) {
            return WRONG - place;
        }

        private int term(int place, int depth) {
            if (depth > DEEPEST) {
                return wrong(place);
            }
            int c = text.at(place);
            int end;
            if (isDigit(c)) {
                end = place + 1;
            } else if (isLetter(c)) {
                end = mayStand(c - 'a') ? place + 1 : wrong(place);
            } else if (isFunction(c)) {
                end = functionTerm(place, depth);
            } else {
                end = operation(place, depth);
            }
            text.setEnd(place, end);
            return end;
        }

        private boolean mayStand(int letter) {
            return letter < mayBeFree || scope[letter] != FREE;
        }

        private int operation(int place, int depth) {
            switch (text.at(place)) {
                case '+':
                case '|':
                case '&':
                case '-':
                    return parts(place, 2, false, depth);
                case 'U':
                case 'P':
                case 'T':
                    return parts(place, 1, false, depth);
                case '{':
                    return binder(place, true, depth);
                case 'I':
                    return binder(place, false, depth);
                default:
                    return wrong(place);
            }
        }

        private int functionTerm(int place, int depth) {
            int f = text.at(place) - 'A';
            if (f != own) {
                int takes = functions[f].takes();
                return takes == 0 ? wrong(place) : parts(place, takes, false, depth);
            }
            int first = text.at(place + 1);
            if (!isLetter(first) || scope[first - 'a'] != BOUND_OVER_GIVEN) {
                return wrong(place + 1);
            }
            return parts(place, ownTakes, false, depth);
        }

        private int formula(int place, int depth) {
            if (depth > DEEPEST) {
                return wrong(place);
            }
            int end;
            switch (text.at(place)) {
                case '<':
                case '=':
                    end = parts(place, 2, false, depth);
                    break;
                case '!':
                    end = parts(place, 1, true, depth);
                    break;
                case '^':
                case 'v':
                case '>':
                    end = parts(place, 2, true, depth);
                    break;
                case 'E':
                case 'L':
                    end = binder(place, true, depth);
                    break;
                default:
                    end = wrong(place);
                    break;
            }
            text.setEnd(place, end);
            return end;
        }

        private int parts(int place, int count, boolean areFormulas, int depth) {
            int end = place + 1;
            for (int k = 0; k < count && end >= 0; k++) {
                end = part(end, areFormulas, depth);
            }
            return end;
        }

        private int part(int place, boolean isFormula, int depth) {
            return isFormula ? formula(place, depth + 1) : term(place, depth + 1);
        }

        private int binder(int place, boolean ofFormula, int depth) {
            int c = text.at(place + 1);
            if (!isLetter(c)) {
                return wrong(place + 1);
            }
            int second = term(place + 2, depth + 1);
            if (second < 0) {
                return second;
            }
            int letter = c - 'a';
            int outside = scope[letter];
            boolean overGiven = text.at(place + 2) == 'a' && scope[0] == FREE;
            scope[letter] = overGiven ? BOUND_OVER_GIVEN : BOUND;
            int end = part(second, ofFormula, depth);
            scope[letter] = outside;
            return end;
        }
    }

    /** Works out what has been read; what is OUT anywhere makes the whole OUT, so work stops there. */
    private static final class Worker {
        private final Function[] functions;
        // A row of letters for the whole (row 0), and one for each function's term that is open (the row of its depth).
        private final long[] values = new long[(MOST_OPEN + 1) * LETTERS];
        private int spent = 0;

        Worker(Function[] functions) {
            this.functions = functions;
        }

        /** What a free letter is, in all that is worked out from now on. */
        void give(int letter, long code) {
            if (letter >= 0 && letter < LETTERS) {
                values[letter] = code;
            }
        }

        /** The code of a whole text as a term, or OUT. */
        long codeOf(Text text) {
            spent = 0;
            return term(text, 0, 0, 1);
        }

        /** 1 when a whole text holds as a formula, 0 when not, or OUT. */
        int truthOf(Text text) {
            spent = 0;
            return formula(text, 0, 0, 1);
        }

        private boolean pay(int depth) {
            if (depth > MOST_OPEN || spent >= MOST_SPENT) {
                return false;
            }
            spent++;
            return true;
        }

        private long term(Text text, int place, int row, int depth) {
            if (!pay(depth)) {
                return OUT;
            }
            int c = text.at(place);
            if (isDigit(c)) {
                return c - '0';
            }
            if (isLetter(c)) {
                return values[row * LETTERS + c - 'a'];
            }
            if (isFunction(c)) {
                return given(text, place, row, depth);
            }
            int part = text.firstPartOf(place);
            long s = term(text, part, row, depth + 1);
            if (s < 0) {
                return OUT;
            }
            switch (c) {
                case 'U':
                    return unionOf(s);
                case 'P':
                    return subsetsOf(s);
                case 'T':
                    return allBelow(s);
                case '{':
                case 'I':
                    return gathered(text, place, s, row, depth);
                default:
                    return joined(c, s, term(text, text.endOf(part), row, depth + 1));
            }
        }

        private static long joined(int c, long s, long t) {
            if (t < 0) {
                return OUT;
            }
            switch (c) {
                case '+':
                    return t < MEMBERS ? s | (1L << t) : OUT;
                case '|':
                    return s | t;
                case '&':
                    return s & t;
                default:
                    return s & ~t;
            }
        }

        private static long unionOf(long s) {
            long union = 0;
            for (int c = 0; c < MEMBERS && s >> c != 0; c++) {
                if (isMember(s, c)) {
                    union |= c;
                }
            }
            return union;
        }

        private static long subsetsOf(long s) {
            if (s >= MEMBERS) {
                return OUT;
            }
            long subsets = 0;
            for (int c = 0; c <= s; c++) {
                if ((c & ~s) == 0) {
                    subsets |= 1L << c;
                }
            }
            return subsets;
        }

        private static long allBelow(long s) {
            long below = s;
            for (int k = 0; k < MOST_RANK; k++) {
                below |= unionOf(below);
            }
            return below;
        }

        /** For I what its term is for each member of s; for {, E and L the members for which the formula holds. */
        private long gathered(Text text, int place, long s, int row, int depth) {
            int letter = letterBoundAt(text, place, row);
            long outside = values[letter];
            long all = 0;
            for (int c = 0; c < MEMBERS && s >> c != 0; c++) {
                if (isMember(s, c)) {
                    values[letter] = c;
                    long brought = broughtBy(c, text, place, row, depth);
                    if (brought < 0) {
                        return OUT;
                    }
                    all |= brought;
                }
            }
            values[letter] = outside;
            return all;
        }

        private long broughtBy(int c, Text text, int place, int row, int depth) {
            int part = text.endOf(place + 2);
            if (text.at(place) == 'I') {
                long code = term(text, part, row, depth + 1);
                return code >= 0 && code < MEMBERS ? 1L << code : OUT;
            }
            int truth = formula(text, part, row, depth + 1);
            return truth >= 0 ? (long) truth << c : OUT;
        }

        private static int letterBoundAt(Text text, int place, int row) {
            int c = text.at(place + 1);
            return row * LETTERS + (isLetter(c) ? c - 'a' : 0);
        }

        private long given(Text text, int place, int row, int depth) {
            Function function = functions[text.at(place) - 'A'];
            int part = place + 1;
            for (int k = 0; k < function.takes(); k++) {
                // Terms lie deeper than this one, so functions in them use other rows than this.
                long code = term(text, part, row, depth + 1);
                if (code < 0) {
                    return OUT;
                }
                values[depth * LETTERS + k] = code;
                part = text.endOf(part);
            }
            return term(function.body(), 0, depth, depth + 1);
        }

        private int formula(Text text, int place, int row, int depth) {
            if (!pay(depth)) {
                return OUT;
            }
            switch (text.at(place)) {
                case '<':
                case '=':
                    return compared(text, place, row, depth);
                case 'E':
                case 'L':
                    return quantified(text, place, row, depth);
                default:
                    return connected(text, place, row, depth);
            }
        }

        private int compared(Text text, int place, int row, int depth) {
            long s = term(text, place + 1, row, depth + 1);
            if (s < 0) {
                return OUT;
            }
            long t = term(text, text.endOf(place + 1), row, depth + 1);
            if (t < 0) {
                return OUT;
            }
            boolean isSo = text.at(place) == '=' ? s == t : s < MEMBERS && isMember(t, (int) s);
            return isSo ? 1 : 0;
        }

        private int quantified(Text text, int place, int row, int depth) {
            long s = term(text, place + 2, row, depth + 1);
            if (s < 0) {
                return OUT;
            }
            long chosen = gathered(text, place, s, row, depth);
            if (chosen < 0) {
                return OUT;
            }
            boolean quantifierHolds = text.at(place) == 'E' ? chosen != 0 : chosen == s;
            return quantifierHolds ? 1 : 0;
        }

        private int connected(Text text, int place, int row, int depth) {
            int f = formula(text, place + 1, row, depth + 1);
            if (f < 0) {
                return OUT;
            }
            if (text.at(place) == '!') {
                return 1 - f;
            }
            int g = formula(text, text.endOf(place + 1), row, depth + 1);
            if (g < 0) {
                return OUT;
            }
            switch (text.at(place)) {
                case '^':
                    return f & g;
                case 'v':
                    return f | g;
                default:
                    return (1 - f) | g;
            }
        }
    }

    /** Terms that come for free letters, all at once; the outcome is compared with a text and never written out. */
    private static final class Replacement {
        private static final int STAYS = -1;
        private static final int SOUGHT = -2;

        private final int[] start = new int[LETTERS];
        private Text terms;
        private int next = 0;

        Replacement(Text terms) {
            this.terms = terms;
            Arrays.fill(start, STAYS);
        }

        /** All letters stay; terms to come are parts of a text. */
        void begin(Text text) {
            terms = text;
            Arrays.fill(start, STAYS);
        }

        /** As begin, but for one letter. */
        void beginWith(Text text, int letter, int place) {
            begin(text);
            put(letter, place);
        }

        void put(int letter, int place) {
            if (letter >= 0 && letter < LETTERS) {
                start[letter] = place;
            }
        }

        /** The term for a letter is the one that the text of the terms, being the one compared, has for it first. */
        void seek(int letter) {
            put(letter, SOUGHT);
        }

        /** Whether the part at a place becomes just what another text has from .. to - 1. */
        boolean gives(Text source, int place, Text target, int from, int to) {
            next = from;
            return goesOn(source, place, target, 0, 1) && next == to;
        }

        private boolean goesOn(Text source, int place, Text target, int bound, int depth) {
            if (depth > DEEPEST) {
                return false;
            }
            int c = source.at(place);
            if (isLetter(c) && (bound >> (c - 'a') & 1) == 0 && start[c - 'a'] != STAYS) {
                return termComes(c - 'a', target, bound);
            }
            int part = source.firstPartOf(place);
            if (!target.has(next, source, place, part)) {
                return false;
            }
            next += part - place;
            int end = source.endOf(place);
            for (int k = 0; k < MOST_TAKEN && part < end; k++) {
                int inside = k == 1 ? bound | source.boundBy(place) : bound;
                if (!goesOn(source, part, target, inside, depth + 1)) {
                    return false;
                }
                part = source.endOf(part);
            }
            return true;
        }

        private boolean termComes(int letter, Text target, int bound) {
            if (start[letter] == SOUGHT) {
                start[letter] = next;
            }
            int from = start[letter];
            int to = terms.endOf(from);
            if ((terms.freeIn(from, 1) & bound) != 0 || !target.has(next, terms, from, to)) {
                return false;
            }
            next += to - from;
            return true;
        }
    }

    /** A form as the document writes it, in which s, t, u, x, F and G stand for parts of the buffer. */
    private static final class Form {
        private static final String NAMES = "stuxFG";
        private static final int NONE = -1;

        private final Text it;
        private final int[] start = new int[NAMES.length()];

        Form(Text it) {
            this.it = it;
            Arrays.fill(start, NONE);
        }

        boolean fits(String form) {
            Arrays.fill(start, NONE);
            int place = 0;
            for (int k = 0; k < form.length() && place != NONE; k++) {
                place = behind(form.charAt(k), place);
            }
            return place == it.length();
        }

        /** The place behind what a form's character stands for, or NONE when that does not stand at the place. */
        private int behind(char c, int place) {
            int name = NAMES.indexOf(c);
            if (name < 0) {
                return it.at(place) == c ? place + 1 : NONE;
            }
            if (start[name] == NONE) {
                start[name] = place;
                return endOf(c);
            }
            int from = start[name];
            int to = endOf(c);
            return it.has(place, it, from, to) ? place + to - from : NONE;
        }

        /** Where the part with a name stands first. */
        int placeOf(char name) {
            int k = NAMES.indexOf(name);
            return k < 0 ? NONE : start[k];
        }

        // x stands first where it is bound, and there it is no part with an end of its own.
        int endOf(char name) {
            return name == 'x' ? placeOf(name) + 1 : it.endOf(placeOf(name));
        }

        int letter() {
            return it.at(placeOf('x')) - 'a';
        }

        boolean letterIsFreeIn(char name) {
            return (it.freeIn(placeOf(name), 1) >> letter() & 1) != 0;
        }
    }

    /** Whether a rule allows the buffer, which has been read as a formula, to become a theorem. */
    private static final class Rules {
        private static final int MOST_PARTS = 6;

        private final Text it;
        private final Function[] functions;
        private final Laws laws;
        private final Text spare = new Text();
        private final Replacement replacement;
        private final Form form;
        private final int[] parts = new int[MOST_PARTS];
        private final int[] partAt = new int[MOST_CHARACTERS];
        private int count = 0;

        Rules(Text it, Function[] functions, Laws laws) {
            this.it = it;
            this.functions = functions;
            this.laws = laws;
            replacement = new Replacement(it);
            form = new Form(it);
        }

        boolean allow(int rule, int i, int j) {
            switch (rule) {
                case 0:
                    return holdsForAllValues();
                case 7:
                    return form.fits(formOf(rule)) && !form.letterIsFreeIn('s') && !form.letterIsFreeIn('t');
                case 8:
                    return form.fits(formOf(rule)) && isReplacedBy('t');
                case 9:
                    return isDetached(laws.text(i), laws.text(j));
                case 10:
                    return isInstanceOf(laws.text(i), j);
                case 11:
                    return isForAllMembers(laws.text(i));
                case 12:
                    return isByInduction(laws.text(i), laws.text(j));
                case 13:
                    return isUnfolding();
                case 14:
                case 15:
                    return form.fits(formOf(rule)) && isReplacedBy('u');
                default:
                    return form.fits(formOf(rule));
            }
        }

        private static String formOf(int rule) {
            switch (rule) {
                case 1:
                    return "=tt";
                case 2:
                    return ">=st><su<tu";
                case 3:
                    return ">=st><us<ut";
                case 4:
                    return "!<t0";
                case 5:
                    return "><u+stv<us=ut";
                case 6:
                    return ">v<us=ut<u+st";
                case 7:
                    return ">^Lxs<xtLxt<xs=st";
                case 8:
                    return ">LxsF><tsG";
                case 11:
                    return "LxsF";
                case 14:
                    return "><u{xsF^<usG";
                case 15:
                    return ">^<usG<u{xsF";
                case 16:
                    return ">ExsF!Lxs!F";
                case 17:
                    return ">!Lxs!FExsF";
                default:
                    return "";
            }
        }

        /** Whether G is F with the named term for x. */
        private boolean isReplacedBy(char name) {
            replacement.beginWith(it, form.letter(), form.placeOf(name));
            return replacement.gives(it, form.placeOf('F'), it, form.placeOf('G'), form.endOf('G'));
        }

        private boolean isDetached(Text first, Text second) {
            int rest = 1 + first.length();
            return second.length() == rest + it.length() && second.at(0) == '>'
                    && second.has(1, first, 0, first.length()) && second.has(rest, it, 0, it.length());
        }

        private boolean isInstanceOf(Text first, int letter) {
            replacement.begin(it);
            replacement.seek(letter);
            return replacement.gives(first, 0, it, 0, it.length());
        }

        private boolean isForAllMembers(Text first) {
            return form.fits(formOf(11)) && !form.letterIsFreeIn('s')
                    && first.length() == it.length() + 1 && first.at(0) == '>' && first.at(1) == '<'
                    && first.has(2, it, 1, it.length());
        }

        private boolean isByInduction(Text first, Text second) {
            int rest = 1 + it.length();
            if (second.at(0) != '>' || !second.has(1, it, 0, it.length())) {
                return false;
            }
            int free = it.freeIn(0, 1);
            for (int x = 0; x < LETTERS; x++) {
                replacement.beginWith(spare, x, 0);
                spareBecomesZero();
                boolean holdsForZero = replacement.gives(it, 0, first, 0, first.length());
                for (int y = 0; y < LETTERS && holdsForZero; y++) {
                    spareBecomesAdjoined(x, y);
                    boolean mayBeAdjoined = y != x && (free >> y & 1) == 0;
                    if (mayBeAdjoined && replacement.gives(it, 0, second, rest, second.length())) {
                        return true;
                    }
                }
            }
            return false;
        }

        private void spareBecomesZero() {
            spare.empty();
            spare.add('0');
            spare.setEnd(0, 1);
        }

        private void spareBecomesAdjoined(int x, int y) {
            spare.empty();
            spare.add('+');
            spare.add('a' + x);
            spare.add('a' + y);
            spare.setEnd(0, 3);
            spare.setEnd(1, 2);
            spare.setEnd(2, 3);
        }

        private boolean isUnfolding() {
            int f = it.at(1) - 'A';
            if (it.at(0) != '=' || f < 0 || f >= FUNCTIONS) {
                return false;
            }
            replacement.begin(it);
            int part = 2;
            for (int k = 0; k < functions[f].takes(); k++) {
                replacement.put(k, part);
                part = it.endOf(part);
            }
            return replacement.gives(functions[f].body(), 0, it, part, it.length());
        }

        private boolean holdsForAllValues() {
            count = 0;
            if (!collectParts(0, 1)) {
                return false;
            }
            for (int values = 0; values < 1 << count; values++) {
                if (!holdsWith(values, 0, 1)) {
                    return false;
                }
            }
            return true;
        }

        /** False when there are too many. */
        private boolean collectParts(int place, int depth) {
            if (depth > DEEPEST) {
                return false;
            }
            if (!isConnective(it.at(place))) {
                return countPart(place);
            }
            int part = place + 1;
            int end = it.endOf(place);
            for (int k = 0; k < 2 && part < end; k++) {
                if (!collectParts(part, depth + 1)) {
                    return false;
                }
                part = it.endOf(part);
            }
            return true;
        }

        private boolean countPart(int place) {
            int k = 0;
            while (k < count && !it.has(place, it, parts[k], it.endOf(parts[k]))) {
                k++;
            }
            if (k >= MOST_PARTS || place < 0 || place >= MOST_CHARACTERS) {
                return false;
            }
            if (k == count) {
                parts[k] = place;
                count++;
            }
            partAt[place] = k;
            return true;
        }

        private boolean holdsWith(int values, int place, int depth) {
            if (depth > DEEPEST || place < 0 || place >= MOST_CHARACTERS) {
                return false;
            }
            int c = it.at(place);
            if (!isConnective(c)) {
                return (values >> partAt[place] & 1) != 0;
            }
            boolean f = holdsWith(values, place + 1, depth + 1);
            if (c == '!') {
                return !f;
            }
            boolean g = holdsWith(values, it.endOf(place + 1), depth + 1);
            return c == '^' ? f && g : c == 'v' ? f || g : !f || g;
        }
    }
}
