import java.util.Arrays;

/** Rules over the fields of a declaration and its lines; DOC.md numbers what it promises. */
public final class CheckRules {
    public static final int NONE = -1;

    private static final int FALSE = 0;
    private static final int TRUE = 1;
    private static final int NOT_KNOWN = 2;

    private static final int OR = 0;
    private static final int AND = 1;
    private static final int NOT = 2;
    private static final int ALL = 3;
    private static final int ANY = 4;
    private static final int LESS = 5;
    private static final int MORE = 6;
    private static final int SAME = 7;
    private static final int OTHER = 8;
    private static final int PLUS = 9;
    private static final int MINUS = 10;
    private static final int NUMBER = 11;
    private static final int FIELD = 12;
    private static final int SUM_OF = 13;
    private static final int COUNT_OF = 14;

    /** The sign of each kind up to MINUS; ALL and ANY are words, and a blank never is a token. */
    private static final String KIND_SIGNS = "|&!  <>=#+-";

    private static final int MOST_SIGNS = 200;
    private static final int MOST_NODES = 40;
    private static final int MOST_DEEP = 10;
    private static final int MOST_RULES = 20;
    private static final int GROUPS = 10;
    private static final int FIELDS = 20;
    private static final int LINES = 10;
    private static final int LAST_DAY = 100000;
    private static final int LARGEST_VALUE = 1000000;
    private static final int FIRST_NODE_COUNT = 100;

    /** Far outside of what sums over a tree of 40 nodes can reach. */
    private static final int NO_VALUE = Integer.MIN_VALUE;

    private final Reader reader = new Reader();
    private final Worker worker = new Worker();
    private final Printer printer = new Printer();
    private final Rule[] rules = new Rule[MOST_RULES];
    private int ruleCount = 0;
    private int checkCount = 0;
    private int today = 0;

    public CheckRules() {
    }

    public boolean sign(int c) {
        return c >= 32 && c <= 126 && reader.text.add(c);
    }

    public int rule() throws IllegalStateException {
        if (ruleCount < 0 || ruleCount >= rules.length) {
            throw new IllegalStateException("there are 20 rules");
        }
        int wrong = reader.readText();
        reader.text.clear();
        if (wrong != NONE) {
            return -1 - wrong;
        }
        rules[ruleCount] = new Rule(reader.copyOfTree());
        ruleCount++;
        return ruleCount - 1;
    }

    public boolean order(int rule, int group, boolean hard) {
        Rule found = find(rule);
        if (found == null || group < 0 || group >= GROUPS) {
            return false;
        }
        found.group = group;
        found.hard = hard;
        return true;
    }

    public boolean edition(int rule, int day) {
        Rule found = find(rule);
        if (found == null || !isDay(day)) {
            return false;
        }
        found.firstDay = day;
        return true;
    }

    public boolean day(int day) {
        if (!isDay(day)) {
            return false;
        }
        today = day;
        return true;
    }

    public boolean field(int field, int line, int value) {
        if (value < -LARGEST_VALUE || value > LARGEST_VALUE) {
            return false;
        }
        return worker.declaration.put(field, line, value);
    }

    public boolean without(int field, int line) {
        if (worker.declaration.valueOn(field, line) == NO_VALUE) {
            return false;
        }
        return worker.declaration.put(field, line, NO_VALUE);
    }

    public int check() {
        checkCount++;
        for (int i = 0; i < ruleCount; i++) {
            checkOne(find(i));
        }
        return findBad(0, true);
    }

    public int bad(int i, boolean hard) {
        return findBad(i, hard);
    }

    public int was(int rule) throws IllegalArgumentException {
        Rule found = find(rule);
        if (found == null) {
            throw new IllegalArgumentException("no such rule");
        }
        return found.latest;
    }

    public int is(int rule) throws IllegalArgumentException {
        Rule found = find(rule);
        if (found == null) {
            throw new IllegalArgumentException("no such rule");
        }
        return worker.workOut(found.tree);
    }

    public boolean answer(int rule) {
        Rule found = find(rule);
        if (found == null || found.hard || found.latest == NONE || found.latest == TRUE) {
            return false;
        }
        found.answered = true;
        return true;
    }

    public int touch(int field) throws IllegalArgumentException {
        if (field < 0 || field >= FIELDS) {
            throw new IllegalArgumentException("no such field");
        }
        int touched = 0;
        for (int i = 0; i < ruleCount; i++) {
            Rule found = find(i);
            if (found != null && found.tree.names(field)) {
                touched++;
            }
        }
        return touched;
    }

    public int never(int i) {
        int ahead = i;
        for (int rule = 0; rule < ruleCount; rule++) {
            Rule found = find(rule);
            if (found != null && found.latest != NONE && !found.met) {
                if (ahead == 0) {
                    return rule;
                }
                ahead--;
            }
        }
        return NONE;
    }

    public int node(int rule, int i, int what) throws IndexOutOfBoundsException {
        Rule found = find(rule);
        if (found == null || i < 0 || i >= found.tree.size() || what < 0 || what > 3) {
            throw new IndexOutOfBoundsException("no such rule, node or what");
        }
        switch (what) {
            case 0:
                return found.tree.kindOf(i);
            case 1:
                return found.tree.valueOf(i);
            case 2:
                return found.tree.leftOf(i);
            default:
                return found.tree.rightOf(i);
        }
    }

    public int print(int rule) throws IllegalArgumentException {
        Rule found = find(rule);
        if (found == null) {
            throw new IllegalArgumentException("no such rule");
        }
        printer.printTree(found.tree);
        return printer.printed.size();
    }

    public int at(int i) throws IndexOutOfBoundsException {
        int c = printer.printed.get(i);
        if (c == NONE) {
            throw new IndexOutOfBoundsException("no such sign");
        }
        return c;
    }

    public int count(int what) {
        switch (what) {
            case 0:
                return reader.text.size();
            case 1:
                return ruleCount;
            case 2:
                return checkCount;
            case 3:
                return countBad(true);
            case 4:
                return countBad(false);
            case 5:
                return worker.declaration.lineBits();
            default:
                return countNodes(what);
        }
    }

    private int countNodes(int what) {
        if (what < FIRST_NODE_COUNT) {
            return NONE;
        }
        Rule found = find(what - FIRST_NODE_COUNT);
        return found == null ? NONE : found.tree.size();
    }

    /** Null if there is no such rule. */
    private Rule find(int rule) {
        if (rule < 0 || rule >= ruleCount || rule >= rules.length) {
            return null;
        }
        return rules[rule];
    }

    private void checkOne(Rule rule) {
        if (rule == null) {
            return;
        }
        if (rule.firstDay > today) {
            rule.faulty = false;
            return;
        }
        rule.takeResult(worker.workOut(rule.tree));
    }

    private int findBad(int i, boolean hard) {
        int ahead = i;
        for (int group = 0; group < GROUPS; group++) {
            for (int rule = 0; rule < ruleCount; rule++) {
                Rule found = find(rule);
                if (found != null && found.group == group && found.isBad(hard)) {
                    if (ahead == 0) {
                        return rule;
                    }
                    ahead--;
                }
            }
        }
        return NONE;
    }

    private int countBad(boolean hard) {
        int found = 0;
        for (int i = 0; i < ruleCount; i++) {
            Rule rule = find(i);
            if (rule != null && rule.isBad(hard)) {
                found++;
            }
        }
        return found;
    }

    private static boolean isDay(int day) {
        return day >= 0 && day <= LAST_DAY;
    }

    /** A row of signs: the text that comes in, or what was printed last. */
    private static final class Signs {
        private final int[] row = new int[MOST_SIGNS];
        private int used = 0;

        int size() {
            return used;
        }

        void clear() {
            used = 0;
        }

        boolean add(int c) {
            if (used < 0 || used >= row.length) {
                return false;
            }
            row[used] = c;
            used++;
            return true;
        }

        /** NONE outside of the row, so that a reader may look past the end. */
        int get(int i) {
            if (i < 0 || i >= used || i >= row.length) {
                return NONE;
            }
            return row[i];
        }
    }

    /** The values of the fields on the lines. */
    private static final class Declaration {
        private final int[] values = new int[FIELDS * LINES];

        Declaration() {
            Arrays.fill(values, NO_VALUE);
        }

        private static int slotOf(int field, int line) {
            if (field < 0 || field >= FIELDS || line < 0 || line >= LINES) {
                return NONE;
            }
            return line * FIELDS + field;
        }

        boolean put(int field, int line, int value) {
            int slot = slotOf(field, line);
            if (slot < 0 || slot >= values.length) {
                return false;
            }
            values[slot] = value;
            return true;
        }

        int valueOn(int field, int line) {
            int slot = slotOf(field, line);
            if (slot < 0 || slot >= values.length) {
                return NO_VALUE;
            }
            return values[slot];
        }

        int sumOf(int field) {
            int sum = 0;
            for (int line = 1; line < LINES; line++) {
                int value = valueOn(field, line);
                sum += value == NO_VALUE ? 0 : value;
            }
            return sum;
        }

        int countOf(int field) {
            int found = 0;
            for (int line = 1; line < LINES; line++) {
                found += valueOn(field, line) == NO_VALUE ? 0 : 1;
            }
            return found;
        }

        /** Bit 1 for line 1, up to bit 9; the head is no line of its own here. */
        int lineBits() {
            int bits = 0;
            for (int line = 1; line < LINES; line++) {
                for (int field = 0; field < FIELDS; field++) {
                    if (valueOn(field, line) != NO_VALUE) {
                        bits |= 1 << line;
                    }
                }
            }
            return bits;
        }
    }

    /** Nodes in the order of their numbers: a node's left one is always the next. */
    private static final class Tree {
        private final int[] kinds;
        private final int[] values;
        private final int[] rights;
        private int used;

        Tree() {
            kinds = new int[MOST_NODES];
            values = new int[MOST_NODES];
            rights = new int[MOST_NODES];
            used = 0;
        }

        private Tree(Tree other) {
            used = Math.max(0, Math.min(other.used, MOST_NODES));
            kinds = Arrays.copyOf(other.kinds, used);
            values = Arrays.copyOf(other.values, used);
            rights = Arrays.copyOf(other.rights, used);
        }

        Tree copy() {
            return new Tree(this);
        }

        void clear() {
            used = 0;
        }

        int size() {
            return used;
        }

        boolean append(int kind, int value) {
            if (used < 0 || used >= kinds.length) {
                return false;
            }
            kinds[used] = kind;
            values[used] = value;
            rights[used] = NONE;
            used++;
            return true;
        }

        /** What stands from a place on becomes the left of a new node; its right comes next. */
        boolean insert(int place, int kind) {
            if (place < 0 || place > used || !append(kind, NONE)) {
                return false;
            }
            for (int i = used - 1; i > place; i--) {
                kinds[i] = kinds[i - 1];
                values[i] = values[i - 1];
                rights[i] = rights[i - 1] == NONE ? NONE : rights[i - 1] + 1;
            }
            kinds[place] = kind;
            values[place] = NONE;
            rights[place] = used;
            return true;
        }

        void setLastValue(int value) {
            if (used > 0 && used <= values.length) {
                values[used - 1] = value;
            }
        }

        private boolean has(int i) {
            return i >= 0 && i < used && i < kinds.length;
        }

        int kindOf(int i) {
            return has(i) ? kinds[i] : NONE;
        }

        int valueOf(int i) {
            return has(i) ? values[i] : NONE;
        }

        int leftOf(int i) {
            return has(i) && kinds[i] <= MINUS ? i + 1 : NONE;
        }

        int rightOf(int i) {
            return has(i) ? rights[i] : NONE;
        }

        boolean names(int field) {
            for (int i = 0; i < used; i++) {
                if (kindOf(i) >= FIELD && valueOf(i) == field) {
                    return true;
                }
            }
            return false;
        }
    }

    /** A rule and what checks and answers have left with it. */
    private static final class Rule {
        private final Tree tree;
        private int group = 0;
        private boolean hard = true;
        private int firstDay = 0;
        private int latest = NONE;
        private boolean met = false;
        private boolean answered = false;
        private boolean faulty = false;

        Rule(Tree tree) {
            this.tree = tree;
        }

        void takeResult(int result) {
            if (result != latest) {
                answered = false;
            }
            latest = result;
            if (result == TRUE) {
                met = true;
            }
            faulty = result != TRUE && !answered;
        }

        boolean isBad(boolean asHard) {
            return faulty && hard == asHard;
        }
    }

    /** Collects the text, and reads it into a tree token by token, by what may come next. */
    private static final class Reader {
        /** Tokens: a sign stands for itself, so these lie below all signs. */
        private static final int END = 0;
        private static final int WRONG = 1;
        private static final int NUMBER_TOKEN = 2;
        private static final int FIELD_TOKEN = 3;
        private static final int ALL_WORD = 4;
        private static final int ANY_WORD = 5;
        private static final int SUM_WORD = 6;
        private static final int COUNT_WORD = 7;

        /** What may come next. A part is a NOT of the grammar. */
        private static final int WANTS_PART = 0;
        private static final int WANTS_OPENING = 1;
        private static final int WANTS_TERM = 2;
        private static final int WANTS_FIELD = 3;
        private static final int BEHIND_TERM = 4;
        private static final int BEHIND_PART = 5;

        private final Signs text = new Signs();
        private final Tree tree = new Tree();
        /** By levels of open ( : where the RULE and the AND begin, and how deep they are. */
        private final int[] ruleStarts = new int[MOST_DEEP + 1];
        private final int[] andStarts = new int[MOST_DEEP + 1];
        private final int[] depths = new int[MOST_DEEP + 1];
        private int level;
        private int depth;
        private int sumStart;
        private boolean compared;
        private int state;
        private int place;
        private int token;
        private int tokenStart;
        private int tokenValue;

        Tree copyOfTree() {
            return tree.copy();
        }

        /** The first wrong place, or NONE if the text is a rule. */
        int readText() {
            tree.clear();
            place = 0;
            depth = 0;
            beginLevel(0);
            // A token takes one sign at least, so the end comes within these rounds.
            for (int round = 0; round <= MOST_SIGNS; round++) {
                readToken();
                if (!takeToken()) {
                    return tokenStart;
                }
                if (token == END) {
                    return NONE;
                }
            }
            return tokenStart;
        }

        private boolean takeToken() {
            switch (state) {
                case WANTS_PART:
                    return takePart();
                case WANTS_OPENING:
                    return token == '(' && beginLevel(level + 1);
                case WANTS_TERM:
                    return takeTerm();
                case WANTS_FIELD:
                    return takeFieldOfSum();
                case BEHIND_TERM:
                    return takeBehindTerm();
                default:
                    return takeBehindPart();
            }
        }

        private boolean takePart() {
            switch (token) {
                case '!':
                    return goDeeper() && tree.append(NOT, NONE);
                case '(':
                    return goDeeper() && beginLevel(level + 1);
                case ALL_WORD:
                    state = WANTS_OPENING;
                    return goDeeper() && tree.append(ALL, NONE);
                case ANY_WORD:
                    state = WANTS_OPENING;
                    return goDeeper() && tree.append(ANY, NONE);
                default:
                    compared = false;
                    sumStart = tree.size();
                    return takeTerm();
            }
        }

        private boolean takeTerm() {
            switch (token) {
                case NUMBER_TOKEN:
                    state = BEHIND_TERM;
                    return tree.append(NUMBER, tokenValue);
                case FIELD_TOKEN:
                    state = BEHIND_TERM;
                    return tree.append(FIELD, tokenValue);
                case SUM_WORD:
                    state = WANTS_FIELD;
                    return tree.append(SUM_OF, NONE);
                case COUNT_WORD:
                    state = WANTS_FIELD;
                    return tree.append(COUNT_OF, NONE);
                default:
                    return false;
            }
        }

        private boolean takeFieldOfSum() {
            if (token != FIELD_TOKEN) {
                return false;
            }
            tree.setLastValue(tokenValue);
            state = BEHIND_TERM;
            return true;
        }

        private boolean takeBehindTerm() {
            switch (token) {
                case '+':
                case '-':
                    state = WANTS_TERM;
                    return tree.insert(sumStart, kindOfToken());
                case '<':
                case '>':
                case '=':
                case '#':
                    return !compared && compare();
                default:
                    return compared && takeBehindPart();
            }
        }

        private boolean compare() {
            if (!tree.insert(sumStart, kindOfToken())) {
                return false;
            }
            compared = true;
            sumStart = tree.size();
            state = WANTS_TERM;
            return true;
        }

        private int kindOfToken() {
            return KIND_SIGNS.indexOf((char) token);
        }

        private boolean takeBehindPart() {
            if (level < 0 || level >= depths.length) {
                return false;
            }
            // Whatever ! or ( stood ahead of this on the level is closed by now.
            depth = depths[level];
            switch (token) {
                case '&':
                    state = WANTS_PART;
                    return tree.insert(andStarts[level], AND);
                case '|':
                    state = WANTS_PART;
                    boolean fits = tree.insert(ruleStarts[level], OR);
                    andStarts[level] = tree.size();
                    return fits;
                case ')':
                    return endLevel();
                default:
                    return token == END && level == 0;
            }
        }

        private boolean goDeeper() {
            if (depth >= MOST_DEEP) {
                return false;
            }
            depth++;
            return true;
        }

        private boolean beginLevel(int next) {
            if (next < 0 || next >= depths.length) {
                return false;
            }
            level = next;
            ruleStarts[next] = tree.size();
            andStarts[next] = tree.size();
            depths[next] = depth;
            state = WANTS_PART;
            return true;
        }

        private boolean endLevel() {
            if (level < 1 || level >= depths.length) {
                return false;
            }
            level--;
            state = BEHIND_PART;
            return true;
        }

        private void readToken() {
            for (int i = 0; i < MOST_SIGNS && text.get(place) == ' '; i++) {
                place++;
            }
            tokenStart = place;
            int c = text.get(place);
            if (c == NONE) {
                token = END;
            } else if (isDigit(c)) {
                token = readNumber(7) ? NUMBER_TOKEN : WRONG;
            } else if (isLetter(c)) {
                token = readWord();
            } else {
                token = c;
                place++;
            }
        }

        /** Goes past all digits that stand here, too many ones too: they are one number. */
        private boolean readNumber(int mostDigits) {
            int from = place;
            tokenValue = 0;
            for (int i = 0; i < MOST_SIGNS && isDigit(text.get(place)); i++) {
                tokenValue = i < mostDigits ? tokenValue * 10 + text.get(place) - '0' : tokenValue;
                place++;
            }
            return place > from && place - from <= mostDigits;
        }

        private int readWord() {
            for (int i = 0; i < MOST_SIGNS && isLetter(text.get(place)); i++) {
                place++;
            }
            if (isWord("f")) {
                return readNumber(2) && tokenValue < FIELDS ? FIELD_TOKEN : WRONG;
            }
            if (isWord("all")) {
                return ALL_WORD;
            }
            if (isWord("any")) {
                return ANY_WORD;
            }
            if (isWord("sum")) {
                return SUM_WORD;
            }
            return isWord("count") ? COUNT_WORD : WRONG;
        }

        private boolean isWord(String word) {
            if (place - tokenStart != word.length()) {
                return false;
            }
            for (int i = 0; i < word.length(); i++) {
                if (text.get(tokenStart + i) != word.charAt(i)) {
                    return false;
                }
            }
            return true;
        }

        private static boolean isDigit(int c) {
            return c >= '0' && c <= '9';
        }

        private static boolean isLetter(int c) {
            return c >= 'a' && c <= 'z';
        }
    }

    /**
     * Holds the values, and works a tree out from its last node to its first, each on all lines
     * at once: nested ALL and ANY would otherwise go over the lines 9 times for each level.
     */
    private static final class Worker {
        private final Declaration declaration = new Declaration();
        private final int[] results = new int[MOST_NODES * LINES];
        private int lineBits;

        int workOut(Tree tree) {
            lineBits = declaration.lineBits();
            for (int i = Math.min(tree.size(), MOST_NODES) - 1; i >= 0; i--) {
                workOutNode(tree, i);
            }
            return resultOf(0, 0);
        }

        private void workOutNode(Tree tree, int i) {
            int kind = tree.kindOf(i);
            int value = tree.valueOf(i);
            switch (kind) {
                case NUMBER:
                    setOnAllLines(i, value);
                    break;
                case SUM_OF:
                    setOnAllLines(i, declaration.sumOf(value));
                    break;
                case COUNT_OF:
                    setOnAllLines(i, declaration.countOf(value));
                    break;
                case ALL:
                case ANY:
                    setOnAllLines(i, overLines(kind, tree.leftOf(i)));
                    break;
                case FIELD:
                    for (int line = 0; line < LINES; line++) {
                        setResult(i, line, declaration.valueOn(value, line));
                    }
                    break;
                default:
                    for (int line = 0; line < LINES; line++) {
                        int left = resultOf(tree.leftOf(i), line);
                        int right = resultOf(tree.rightOf(i), line);
                        setResult(i, line, joined(kind, left, right));
                    }
            }
        }

        private int overLines(int kind, int below) {
            int result = kind == ALL ? TRUE : FALSE;
            for (int line = 1; line < LINES; line++) {
                if (((lineBits >> line) & 1) == 1) {
                    int onLine = resultOf(below, line);
                    result = kind == ALL ? both(result, onLine) : either(result, onLine);
                }
            }
            return result;
        }

        private static int joined(int kind, int left, int right) {
            switch (kind) {
                case OR:
                    return either(left, right);
                case AND:
                    return both(left, right);
                case NOT:
                    return turned(left);
                default:
                    return calculated(kind, left, right);
            }
        }

        private static int calculated(int kind, int left, int right) {
            boolean known = left != NO_VALUE && right != NO_VALUE;
            if (kind == PLUS) {
                return known ? left + right : NO_VALUE;
            }
            if (kind == MINUS) {
                return known ? left - right : NO_VALUE;
            }
            if (!known) {
                return NOT_KNOWN;
            }
            return holds(kind, left, right) ? TRUE : FALSE;
        }

        private static boolean holds(int kind, int left, int right) {
            switch (kind) {
                case LESS:
                    return left < right;
                case MORE:
                    return left > right;
                case SAME:
                    return left == right;
                case OTHER:
                    return left != right;
                default:
                    return false;
            }
        }

        private static int both(int left, int right) {
            if (left == FALSE || right == FALSE) {
                return FALSE;
            }
            return left == NOT_KNOWN || right == NOT_KNOWN ? NOT_KNOWN : TRUE;
        }

        private static int either(int left, int right) {
            return turned(both(turned(left), turned(right)));
        }

        private static int turned(int answer) {
            if (answer == NOT_KNOWN) {
                return NOT_KNOWN;
            }
            return answer == TRUE ? FALSE : TRUE;
        }

        private void setOnAllLines(int i, int result) {
            for (int line = 0; line < LINES; line++) {
                setResult(i, line, result);
            }
        }

        private void setResult(int i, int line, int result) {
            int slot = i * LINES + line;
            if (slot >= 0 && slot < results.length) {
                results[slot] = result;
            }
        }

        /** No value for NONE, which a node has where nothing is below it. */
        private int resultOf(int i, int line) {
            int slot = i * LINES + line;
            if (i < 0 || slot < 0 || slot >= results.length) {
                return NO_VALUE;
            }
            return results[slot];
        }
    }

    /** Prints a tree and holds what was printed last; never longer than the text that it was read from. */
    private static final class Printer {
        private final Signs printed = new Signs();

        void printTree(Tree tree) {
            printed.clear();
            printNode(tree, 0, 0);
        }

        private void printNode(Tree tree, int i, int depth) {
            if (depth >= MOST_NODES) {
                return;
            }
            int kind = tree.kindOf(i);
            switch (kind) {
                case NOT:
                    printed.add('!');
                    printBelow(tree, i, tree.leftOf(i), depth);
                    break;
                case ALL:
                case ANY:
                    addWord(kind == ALL ? "all(" : "any(");
                    printBelow(tree, i, tree.leftOf(i), depth);
                    printed.add(')');
                    break;
                case NUMBER:
                case FIELD:
                case SUM_OF:
                case COUNT_OF:
                    printTerm(kind, tree.valueOf(i));
                    break;
                default:
                    printBelow(tree, i, tree.leftOf(i), depth);
                    addSignOf(kind);
                    printBelow(tree, i, tree.rightOf(i), depth);
            }
        }

        private void printBelow(Tree tree, int i, int below, int depth) {
            boolean right = below == tree.rightOf(i);
            boolean wrapped = needsBrackets(tree.kindOf(i), tree.kindOf(below), right);
            if (wrapped) {
                printed.add('(');
            }
            printNode(tree, below, depth + 1);
            if (wrapped) {
                printed.add(')');
            }
        }

        private static boolean needsBrackets(int kind, int below, boolean right) {
            switch (kind) {
                case NOT:
                    return below == OR || below == AND;
                case AND:
                    return below == OR || (below == AND && right);
                case OR:
                    return below == OR && right;
                default:
                    return false;
            }
        }

        private void printTerm(int kind, int value) {
            if (kind == SUM_OF) {
                addWord("sum ");
            }
            if (kind == COUNT_OF) {
                addWord("count ");
            }
            if (kind != NUMBER) {
                printed.add('f');
            }
            addNumber(value);
        }

        private void addNumber(int value) {
            // A number has 7 digits at most.
            for (int unit = 1000000; unit > 0; unit /= 10) {
                if (value >= unit || unit == 1) {
                    printed.add('0' + value / unit % 10);
                }
            }
        }

        private void addWord(String word) {
            for (int i = 0; i < word.length(); i++) {
                printed.add(word.charAt(i));
            }
        }

        private void addSignOf(int kind) {
            if (kind >= 0 && kind < KIND_SIGNS.length()) {
                printed.add(KIND_SIGNS.charAt(kind));
            }
        }
    }
}
