import java.util.ArrayList;
import java.util.List;
import java.util.Random;
import java.util.TreeMap;

/** Random runs of calls on the class and on a plain model of the document, side by side. */
public final class CheckRulesModel {
    private static final int RUNS = 3000;
    private static final int CALLS = 512;
    private static final int REFUSED = -999;
    private static int wrong = 0;

    public static void main(String[] args) {
        int accepted = 0;
        for (int run = 0; run < RUNS && wrong < 20; run++) {
            accepted += new Run(run).go();
        }
        System.out.println(RUNS + " runs, " + accepted + " rules read, " + wrong + " not as due");
        if (wrong != 0 || accepted < RUNS) {
            System.exit(1);
        }
    }

    /** Where a text is wrong. */
    private static final class Wrong extends RuntimeException {
        private static final long serialVersionUID = 1L;
        private final int place;

        Wrong(int place) {
            this.place = place;
        }
    }

    private static final class Node {
        int kind;
        int value = -1;
        Node left;
        Node right;
        int number;

        Node(int kind, Node left, Node right) {
            this.kind = kind;
            this.left = left;
            this.right = right;
        }

        void number(List<Node> all) {
            number = all.size();
            all.add(this);
            if (left != null) {
                left.number(all);
            }
            if (right != null) {
                right.number(all);
            }
        }
    }

    /** Recursive descent straight over the signs. */
    private static final class Parser {
        private final String s;
        private int p = 0;
        private int made = 0;

        Parser(String s) {
            this.s = s;
        }

        Node whole() {
            Node n = rule(0);
            blanks();
            if (p < s.length()) {
                throw new Wrong(p);
            }
            return n;
        }

        private void blanks() {
            while (p < s.length() && s.charAt(p) == ' ') {
                p++;
            }
        }

        private char peek() {
            blanks();
            return p < s.length() ? s.charAt(p) : 0;
        }

        private void made() {
            made++;
            if (made > 40) {
                throw new Wrong(p);
            }
        }

        private Node rule(int deep) {
            Node n = and(deep);
            while (peek() == '|') {
                made();
                p++;
                n = new Node(0, n, and(deep));
            }
            return n;
        }

        private Node and(int deep) {
            Node n = not(deep);
            while (peek() == '&') {
                made();
                p++;
                n = new Node(1, n, not(deep));
            }
            return n;
        }

        private Node not(int deep) {
            char c = peek();
            String word = word();
            boolean lines = word.equals("all") || word.equals("any");
            if ((c == '!' || c == '(' || lines) && deep == 10) {
                throw new Wrong(p);
            }
            if (c == '!') {
                made();
                p++;
                return new Node(2, not(deep + 1), null);
            }
            if (c == '(') {
                return inBrackets(deep + 1);
            }
            if (lines) {
                made();
                p += 3;
                return new Node(word.equals("all") ? 3 : 4, inBrackets(deep + 1), null);
            }
            Node left = sum();
            int kind = "<>=#".indexOf(peek());
            if (kind < 0) {
                throw new Wrong(p);
            }
            made();
            p++;
            return new Node(5 + kind, left, sum());
        }

        private Node inBrackets(int deep) {
            expect('(');
            Node n = rule(deep);
            expect(')');
            return n;
        }

        private void expect(char c) {
            if (peek() != c) {
                throw new Wrong(p);
            }
            p++;
        }

        private Node sum() {
            Node n = term();
            while (peek() == '+' || peek() == '-') {
                int kind = peek() == '+' ? 9 : 10;
                made();
                p++;
                n = new Node(kind, n, term());
            }
            return n;
        }

        private Node term() {
            char c = peek();
            String word = word();
            Node n;
            if (c >= '0' && c <= '9') {
                made();
                n = new Node(11, null, null);
                n.value = digits(p, 7, 9999999);
            } else if (word.equals("sum") || word.equals("count")) {
                made();
                p += word.length();
                n = new Node(word.equals("sum") ? 13 : 14, null, null);
                n.value = fieldNumber();
            } else {
                int place = p;
                n = new Node(12, null, null);
                n.value = fieldNumber();
                made++;
                if (made > 40) {
                    throw new Wrong(place);
                }
            }
            return n;
        }

        private int fieldNumber() {
            peek();
            if (!word().equals("f")) {
                throw new Wrong(p);
            }
            p++;
            return digits(p - 1, 2, 19);
        }

        private int digits(int first, int most, int largest) {
            int from = p;
            while (p < s.length() && Character.isDigit(s.charAt(p))) {
                p++;
            }
            if (p == from || p - from > most || Integer.parseInt(s.substring(from, p)) > largest) {
                throw new Wrong(first);
            }
            return Integer.parseInt(s.substring(from, p));
        }

        private String word() {
            int end = p;
            while (end < s.length() && s.charAt(end) >= 'a' && s.charAt(end) <= 'z') {
                end++;
            }
            return s.substring(p, end);
        }
    }

    private static final class ModelRule {
        Node root;
        final List<Node> nodes = new ArrayList<>();
        int group = 0;
        boolean hard = true;
        int from = 0;
        int was = -1;
        boolean met = false;
        boolean answered = false;
        boolean bad = false;
    }

    /** One run: the class, the model's state, and the calls that were made. */
    private static final class Run {
        private final int number;
        private final Random random;
        private final CheckRules x = new CheckRules();
        private final StringBuilder text = new StringBuilder();
        private final List<ModelRule> rules = new ArrayList<>();
        private final TreeMap<Integer, Integer> values = new TreeMap<>();
        private String printed = "";
        private int day = 0;
        private int checks = 0;
        private int calls = 0;

        Run(int number) {
            this.number = number;
            this.random = new Random(number * 7919L + 1);
        }

        int go() {
            int wanted = 1 + random.nextInt(6);
            while (calls < CALLS) {
                boolean early = rules.size() < wanted && random.nextInt(3) != 0;
                if (early || random.nextInt(60) == 0) {
                    typeAndRead();
                } else {
                    otherCall(random.nextInt(17));
                }
            }
            return rules.size();
        }

        private void due(String call, int want, int got) {
            calls++;
            // The last step may go past the calls that an object is promised for; their answers are free.
            if (want != got && calls <= CALLS) {
                wrong++;
                System.out.println("run " + number + ": " + call + " due " + want + ", answered " + got);
            }
        }

        private void typeAndRead() {
            String t = number % 2 == 0 && random.nextInt(3) == 0 ? soup() : new Texts(random).make();
            for (int i = 0; i < t.length() && calls < CALLS; i++) {
                boolean fits = text.length() < 200;
                if (fits) {
                    text.append(t.charAt(i));
                }
                due("sign(" + t.charAt(i) + ")", fits ? 1 : 0, x.sign(t.charAt(i)) ? 1 : 0);
            }
            String whole = text.toString();
            due("rule() of '" + whole + "'", readModel(), refusedOr(() -> x.rule()));
        }

        private int readModel() {
            if (rules.size() == 20) {
                return REFUSED;
            }
            String whole = text.toString();
            text.setLength(0);
            try {
                ModelRule r = new ModelRule();
                r.root = new Parser(whole).whole();
                r.root.number(r.nodes);
                rules.add(r);
                return rules.size() - 1;
            } catch (Wrong w) {
                return -1 - w.place;
            }
        }

        private String soup() {
            String[] pieces = {"f1", "f20", "f0", "sum ", "count", " ", "all", "any(", "(", ")", "!", "<", "=",
                "1", "23", "+", "-", "&", "|", "f", "x", "sum f2", "1<2", "all(f1<2)", "#", ">", "00000001"};
            StringBuilder b = new StringBuilder();
            int n = random.nextInt(8);
            for (int i = 0; i < n; i++) {
                b.append(pieces[random.nextInt(pieces.length)]);
            }
            return b.toString();
        }

        private interface Call {
            int run();
        }

        private static int refusedOr(Call call) {
            try {
                return call.run();
            } catch (IllegalStateException | IllegalArgumentException e) {
                return REFUSED;
            } catch (IndexOutOfBoundsException e) {
                if (e.getClass() != IndexOutOfBoundsException.class) {
                    throw e;
                }
                return REFUSED;
            }
        }

        private int someRule() {
            return random.nextInt(rules.size() + 2) - (random.nextInt(10) == 0 ? 1 : 0);
        }

        private boolean there(int rule) {
            return rule >= 0 && rule < rules.size();
        }

        private void otherCall(int which) {
            int r = someRule();
            switch (which) {
                case 0, 1, 2, 3 -> putValue();
                case 4 -> takeValue();
                case 5 -> changeOrder(r);
                case 6 -> changeEdition(r);
                case 7 -> changeDay();
                case 8, 9 -> check();
                case 10 -> giveAnswer(r);
                case 11 -> askBad();
                case 12 -> {
                    due("was " + r, there(r) ? rules.get(r).was : REFUSED, refusedOr(() -> x.was(r)));
                    due("is " + r, there(r) ? logic(rules.get(r).root, 0) : REFUSED, refusedOr(() -> x.is(r)));
                }
                case 13 -> askTouchAndNever();
                case 14 -> askNode(r);
                case 15 -> askPrint(r);
                default -> askCount();
            }
        }

        private void putValue() {
            int f = random.nextInt(12) == 0 ? random.nextInt(24) - 2 : random.nextInt(4);
            int l = random.nextInt(12) == 0 ? random.nextInt(14) - 2 : random.nextInt(4);
            int v = random.nextInt(20) == 0 ? random.nextInt(4000000) - 2000000 : random.nextInt(5);
            boolean can = f >= 0 && f < 20 && l >= 0 && l < 10 && Math.abs(v) <= 1000000;
            if (can) {
                values.put(100 * l + f, v);
            }
            due("field " + f + " " + l + " " + v, can ? 1 : 0, x.field(f, l, v) ? 1 : 0);
        }

        private void takeValue() {
            int f = random.nextInt(6) - 1;
            int l = random.nextInt(5);
            boolean had = f >= 0 && values.remove(100 * l + f) != null;
            due("without " + f + " " + l, had ? 1 : 0, x.without(f, l) ? 1 : 0);
        }

        private void changeOrder(int r) {
            int g = random.nextInt(12) - 1;
            boolean hard = random.nextBoolean();
            boolean can = there(r) && g >= 0 && g <= 9;
            if (can) {
                rules.get(r).group = g;
                rules.get(r).hard = hard;
            }
            due("order " + r + " " + g + " " + hard, can ? 1 : 0, x.order(r, g, hard) ? 1 : 0);
        }

        private void changeEdition(int r) {
            int d = random.nextInt(6) - 1;
            if (there(r) && d >= 0) {
                rules.get(r).from = d;
            }
            due("edition " + r + " " + d, there(r) && d >= 0 ? 1 : 0, x.edition(r, d) ? 1 : 0);
        }

        private void changeDay() {
            int d = random.nextInt(7) - 1;
            day = d >= 0 ? d : day;
            due("day " + d, d >= 0 ? 1 : 0, x.day(d) ? 1 : 0);
        }

        private void check() {
            checks++;
            for (ModelRule r : rules) {
                r.bad = false;
                if (r.from <= day) {
                    int now = logic(r.root, 0);
                    r.answered &= now == r.was;
                    r.was = now;
                    r.met |= now == 1;
                    r.bad = now != 1 && !r.answered;
                }
            }
            List<Integer> broken = bad(true);
            due("check", broken.isEmpty() ? -1 : broken.get(0), x.check());
        }

        private List<Integer> bad(boolean hard) {
            List<Integer> found = new ArrayList<>();
            for (int i = 0; i < rules.size(); i++) {
                if (rules.get(i).bad && rules.get(i).hard == hard) {
                    found.add(i);
                }
            }
            found.sort((a, b) -> rules.get(a).group != rules.get(b).group
                    ? rules.get(a).group - rules.get(b).group : a - b);
            return found;
        }

        private void giveAnswer(int r) {
            boolean can = there(r) && !rules.get(r).hard && (rules.get(r).was == 0 || rules.get(r).was == 2);
            if (can) {
                rules.get(r).answered = true;
            }
            due("answer " + r, can ? 1 : 0, x.answer(r) ? 1 : 0);
        }

        private void askBad() {
            boolean hard = random.nextBoolean();
            List<Integer> found = bad(hard);
            for (int i = -1; i <= found.size(); i++) {
                due("bad " + i + " " + hard, i >= 0 && i < found.size() ? found.get(i) : -1, x.bad(i, hard));
            }
        }

        private void askTouchAndNever() {
            int f = random.nextInt(24) - 2;
            int touched = 0;
            List<Integer> never = new ArrayList<>();
            for (int i = 0; i < rules.size(); i++) {
                ModelRule r = rules.get(i);
                touched += r.nodes.stream().anyMatch(n -> n.kind >= 12 && n.value == f) ? 1 : 0;
                if (r.was != -1 && !r.met) {
                    never.add(i);
                }
            }
            due("touch " + f, f >= 0 && f < 20 ? touched : REFUSED, refusedOr(() -> x.touch(f)));
            for (int i = -1; i <= never.size(); i++) {
                due("never " + i, i >= 0 && i < never.size() ? never.get(i) : -1, x.never(i));
            }
        }

        private void askNode(int r) {
            int size = there(r) ? rules.get(r).nodes.size() : 0;
            int i = random.nextInt(size + 2) - 1;
            for (int what = -1; what <= 4; what++) {
                int w = what;
                int want = REFUSED;
                if (i >= 0 && i < size && what >= 0 && what <= 3) {
                    Node n = rules.get(r).nodes.get(i);
                    Node below = what == 2 ? n.left : n.right;
                    want = what == 0 ? n.kind : what == 1 ? n.value : below == null ? -1 : below.number;
                }
                due("node " + r + " " + i + " " + what, want, refusedOr(() -> x.node(r, i, w)));
            }
        }

        private void askPrint(int r) {
            if (there(r)) {
                printed = print(rules.get(r).root);
            }
            due("print " + r, there(r) ? printed.length() : REFUSED, refusedOr(() -> x.print(r)));
            for (int k = 0; k < 6; k++) {
                int i = k == 0 ? printed.length() : random.nextInt(printed.length() + 2) - 1;
                boolean in = i >= 0 && i < printed.length();
                due("at " + i + " of " + printed, in ? printed.charAt(i) : REFUSED, refusedOr(() -> x.at(i)));
            }
            if (there(r)) {
                Node again = new Parser(printed).whole();
                if (!print(again).equals(printed)) {
                    wrong++;
                    System.out.println("the model reads its own print otherwise: " + printed);
                }
            }
        }

        private static String print(Node n) {
            switch (n.kind) {
                case 2:
                    return "!" + (n.left.kind <= 1 ? "(" + print(n.left) + ")" : print(n.left));
                case 3:
                    return "all(" + print(n.left) + ")";
                case 4:
                    return "any(" + print(n.left) + ")";
                case 11:
                    return "" + n.value;
                case 12:
                    return "f" + n.value;
                case 13:
                    return "sum f" + n.value;
                case 14:
                    return "count f" + n.value;
                default:
                    String l = print(n.left);
                    String r = print(n.right);
                    boolean wrapLeft = n.kind == 1 && n.left.kind == 0;
                    boolean wrapRight = n.kind <= 1 && n.right.kind <= n.kind;
                    return (wrapLeft ? "(" + l + ")" : l) + "|&!..<>=#+-".charAt(n.kind)
                            + (wrapRight ? "(" + r + ")" : r);
            }
        }

        private void askCount() {
            int bits = 0;
            for (int key : values.keySet()) {
                bits |= 1 << key / 100;
            }
            int[] want = {text.length(), rules.size(), checks, bad(true).size(), bad(false).size(), bits & ~1};
            for (int what = -1; what <= 6; what++) {
                due("count " + what, what >= 0 && what < 6 ? want[what] : -1, x.count(what));
            }
            for (int r = -1; r <= rules.size(); r++) {
                due("count " + (100 + r), there(r) ? rules.get(r).nodes.size() : -1, x.count(100 + r));
            }
        }

        private boolean lineIsThere(int line) {
            return !values.subMap(100 * line, 100 * line + 20).isEmpty();
        }

        private int logic(Node n, int line) {
            if (n.kind == 0 || n.kind == 1) {
                int a = logic(n.left, line);
                int b = logic(n.right, line);
                int strong = n.kind == 0 ? 1 : 0;
                return a == strong || b == strong ? strong : a == 2 || b == 2 ? 2 : 1 - strong;
            }
            if (n.kind == 2) {
                int a = logic(n.left, line);
                return a == 2 ? 2 : 1 - a;
            }
            if (n.kind == 3 || n.kind == 4) {
                int strong = n.kind - 3;
                boolean open = false;
                for (int l = 1; l <= 9; l++) {
                    int a = lineIsThere(l) ? logic(n.left, l) : 1 - strong;
                    if (a == strong) {
                        return strong;
                    }
                    open |= a == 2;
                }
                return open ? 2 : 1 - strong;
            }
            Long a = value(n.left, line);
            Long b = value(n.right, line);
            if (a == null || b == null) {
                return 2;
            }
            int order = Long.compare(a, b);
            boolean holds = n.kind == 5 ? order < 0 : n.kind == 6 ? order > 0 : (order == 0) == (n.kind == 7);
            return holds ? 1 : 0;
        }

        private Long value(Node n, int line) {
            if (n.kind == 9 || n.kind == 10) {
                Long a = value(n.left, line);
                Long b = value(n.right, line);
                return a == null || b == null ? null : Long.valueOf(n.kind == 9 ? a + b : a - b);
            }
            if (n.kind == 11) {
                return Long.valueOf(n.value);
            }
            if (n.kind == 12) {
                Integer v = values.get(100 * line + n.value);
                return v == null ? null : Long.valueOf(v);
            }
            long sum = 0;
            for (int l = 1; l <= 9; l++) {
                Integer v = values.get(100 * l + n.value);
                sum += v == null ? 0 : n.kind == 13 ? v : 1;
            }
            return sum;
        }
    }

    /** Texts that are rules for the most part, now and then with one sign changed. */
    private static final class Texts {
        private final Random random;
        private final StringBuilder b = new StringBuilder();
        private final int bias;
        private final boolean blanks;

        Texts(Random random) {
            this.random = random;
            this.bias = random.nextInt(12);
            this.blanks = random.nextInt(3) == 0;
        }

        String make() {
            rule(0);
            if (random.nextInt(4) == 0) {
                spoil();
            }
            return b.length() > 150 ? b.substring(0, 150) : b.toString();
        }

        private void spoil() {
            int i = random.nextInt(b.length());
            String signs = "()!|&<>=#+-0123459 fsumalnyct~A";
            char c = signs.charAt(random.nextInt(signs.length()));
            switch (random.nextInt(4)) {
                case 0 -> b.setCharAt(i, c);
                case 1 -> b.deleteCharAt(i);
                case 2 -> b.insert(i, c);
                default -> b.setLength(i);
            }
        }

        private void put(String s) {
            if (blanks && random.nextInt(3) == 0) {
                b.append("  ", 0, 1 + random.nextInt(2));
            }
            b.append(s);
        }

        private void rule(int deep) {
            and(deep);
            for (int i = 0; i < 9 && random.nextInt(4 + bias / 6) > 2; i++) {
                put("|");
                and(deep);
            }
        }

        private void and(int deep) {
            not(deep);
            for (int i = 0; i < 9 && random.nextInt(4 + bias / 6) > 2; i++) {
                put("&");
                not(deep);
            }
        }

        private void not(int deep) {
            int w = random.nextInt(12);
            if (b.length() > 90 && w < 6) {
                w = 11;
            }
            if (w < 2 || bias == 11 && w < 6 || bias == 10 && deep < 11 && w < 11) {
                put("!");
                not(deep + 1);
            } else if (w < 4) {
                put("(");
                rule(deep + 1);
                put(")");
            } else if (w < 6 && deep < 5) {
                put(random.nextBoolean() ? "all" : "any");
                put("(");
                rule(deep + 1);
                put(")");
            } else {
                sum();
                put("" + "<>=#".charAt(random.nextInt(4)));
                sum();
            }
        }

        private void sum() {
            term();
            for (int i = 0; i < 25 && random.nextInt(bias == 9 ? 20 : 4) > (bias == 9 ? 0 : 2); i++) {
                put(random.nextBoolean() ? "+" : "-");
                term();
            }
        }

        private void term() {
            int w = random.nextInt(8);
            if (w < 3) {
                put("" + random.nextInt(4));
            } else if (w == 3) {
                put("000" + random.nextInt(12000));
            } else {
                if (w > 5) {
                    put(w == 6 ? "sum " : "count ");
                }
                put("f" + (random.nextInt(8) == 0 ? "0" : "") + random.nextInt(random.nextInt(15) == 0 ? 22 : 4));
            }
        }
    }
}
