/**
 * The boundary cases of the text: what is collected, read, numbered and printed. Each method is one
 * sentence of the document, named by its promise or by the heading Terms.
 */
public final class CheckRulesReadingEdges extends Answers {
    private static final int LEAST = Integer.MIN_VALUE;
    private static final int MOST = Integer.MAX_VALUE;
    private static final String DIGITS = "0123456789";

    public static void main(String[] args) {
        signsOf32To126();
        signsUpTo200();
        eachSignAlone();
        eachSignBehindATerm();
        eachSignBehindAnOperator();
        eachSignBehindAWord();
        eachSignBehindBrackets();
        blanksBetween();
        blanksWithin();
        lettersSideBySide();
        digitsOfNumbers();
        digitsOfFields();
        fieldsAsNumbers();
        anyTimes();
        bracketsBeginARule();
        nodesUpTo40();
        kindsAs40thNode();
        kindsAs41stNode();
        bracketsAreNoNodes();
        tenDeep();
        eleventhDeep();
        closedIsNotOpen();
        firstOfSeveralWrongPlaces();
        endsTooEarly();
        all200SignsAreRead();
        firstAndLastWrongPlace();
        textIsUsedUp();
        numbersOfRules();
        twentyRulesAtMost();
        fromTheLeft();
        touchOfFields();
        nodesThatAre();
        nodesBelow();
        valuesOfNodes();
        printedBrackets();
        printedNumbers();
        shortestAndLongestPrint();
        printOfNoRule();
        signsPrinted();
        countsOfText();
        tell();
    }

    private static int[] outside(int first, int last) {
        return new int[] {first - 1, last + 1, last + 256, LEAST, MOST};
    }

    private static void signsOf32To126() {
        sentence("Promise 2, a sign is 32 .. 126");
        CheckRules x = new CheckRules();
        for (int c = 32; c <= 126; c++) {
            yes("sign " + c, x.sign(c));
            due("signs behind sign " + c, c - 31, x.count(0));
        }
        CheckRules y = new CheckRules();
        for (int c : new int[] {31, 127, 0, 10, -1, -32, 128, 255, 32 + 256, 49 + 65536, LEAST, MOST}) {
            no("sign " + c, y.sign(c));
        }
        due("no sign came", 0, y.count(0));
        type(y, "1");
        no("refused within a text", y.sign(127));
        type(y, "<");
        no("refused within a text", y.sign(31));
        due("the text without them", 0, rule(y, "2"));
    }

    private static void signsUpTo200() {
        sentence("Promise 2, there are 200 signs at most");
        CheckRules x = new CheckRules();
        type(x, many(" ", 197) + "1<");
        due("199 signs", 199, x.count(0));
        yes("sign 200", x.sign('2'));
        due("200 signs", 200, x.count(0));
        no("sign 201", x.sign('x'));
        no("sign 202", x.sign(' '));
        due("still 200 signs", 200, x.count(0));
        due("the first 200 are the text", 0, call(x::rule));
        due("used up", 0, x.count(0));
        yes("there is room again", x.sign('1'));
        due("one sign", 1, x.count(0));
    }

    /** Behind a text each sign in turn: these go on, these end a rule, letters and the rest are wrong. */
    private static void eachSign(String text, String goOn, String end, int letterPlace, int place) {
        for (char c = 32; c <= 126; c++) {
            if (end.indexOf(c) >= 0) {
                fine(text + c);
            } else if (goOn.indexOf(c) >= 0) {
                place(text + c, text.length() + 1);
            } else {
                place(text + c, c >= 'a' && c <= 'z' ? letterPlace : place);
            }
        }
    }

    private static void eachSignAlone() {
        sentence("Terms, the first sign that can't stand where it does: at first");
        eachSign("", DIGITS + "!( ", "", 0, 0);
        eachSign(" ", DIGITS + "!( ", "", 1, 1);
    }

    private static void eachSignBehindATerm() {
        sentence("Terms, the first sign that can't stand where it does: behind a TERM");
        eachSign("1", DIGITS + "+-<>=# ", "", 1, 1);
        eachSign("1 ", "+-<>=# ", "", 2, 2);
        eachSign("1234567 ", "+-<>=# ", "", 8, 8);
        eachSign("1<2", "+-&|", DIGITS + " ", 3, 3);
        eachSign("1<2 ", "+-&|", " ", 4, 4);
        eachSign("f1", DIGITS + "+-<>=# ", "", 2, 2);
        eachSign("1<sum f1", "+-&|", DIGITS + " ", 8, 8);
        eachSign("1<count f0", "+-&|", DIGITS + " ", 10, 10);
    }

    private static void eachSignBehindAnOperator() {
        sentence("Terms, the first sign that can't stand where it does: behind an operator");
        for (String compare : new String[] {"1<", "1>", "1=", "1#"}) {
            eachSign(compare, " ", DIGITS, 2, 2);
        }
        eachSign("1+", DIGITS + " ", "", 2, 2);
        eachSign("1<2-", " ", DIGITS, 4, 4);
        eachSign("1<2&", DIGITS + "!( ", "", 4, 4);
        eachSign("1<2|", DIGITS + "!( ", "", 4, 4);
        eachSign("!", DIGITS + "!( ", "", 1, 1);
    }

    private static void eachSignBehindAWord() {
        sentence("Terms, the first sign that can't stand where it does: behind a word");
        eachSign("all", "( ", "", 0, 3);
        eachSign("1<2&any", "( ", "", 4, 7);
        eachSign("all ", "( ", "", 4, 4);
        eachSign("sum", " ", "", 0, 3);
        eachSign("1<count", " ", "", 2, 7);
        eachSign("1<sum ", " ", "", 6, 6);
    }

    private static void eachSignBehindBrackets() {
        sentence("Terms, the first sign that can't stand where it does: at brackets");
        eachSign("(", DIGITS + "!( ", "", 1, 1);
        eachSign("all(", DIGITS + "!( ", "", 4, 4);
        eachSign("(1<2", DIGITS + "+-&| ", ")", 4, 4);
        eachSign("(1<2 ", "+-&| ", ")", 5, 5);
        eachSign("(1<2)", "&|", " ", 5, 5);
        eachSign("any(1<2)", "&|", " ", 8, 8);
        eachSign("((1<2)", "&| ", ")", 6, 6);
    }

    private static void blanksBetween() {
        sentence("Terms, blanks may stand between what is told");
        fine(" ( ! all ( f1 + 2 < sum f3 - count f4 ) & any ( 1 > 2 ) | 1 = 1 & 2 # 3 ) ");
        fine("(!all(f1+2<sum f3-count f4)&any(1>2)|1=1&2#3)");
        fine("1" + many(" ", 99) + "<" + many(" ", 98) + "2");
        fine("sum" + many(" ", 150) + "f1<2");
    }

    private static void blanksWithin() {
        sentence("Terms, blanks may not stand within numbers, words, fields");
        place("1 2<3", 2);
        place("1<2 3", 4);
        place("f 1<3", 0);
        place("f1 1<3", 3);
        place("1<f 1", 2);
        place("1<sum f 1", 6);
        place("su m f1<3", 0);
        place("1<coun t f1", 2);
        place("a ll(1<2)", 0);
        place("1<2&an y(1<2)", 4);
    }

    private static void lettersSideBySide() {
        sentence("Terms, small letters side by side are one word");
        place("sumf3<1", 0);
        place("countf3<1", 0);
        place("1<sumf3", 2);
        place("1 < countf3", 4);
        place("sumsum f3<1", 0);
        place("ff3<1", 0);
        place("fsum f3<1", 0);
        place("allany(1<2)", 0);
        place("allf1<2", 0);
        place("sun f1<1", 0);
        place("counts f1<1", 0);
        place("coun f1<1", 0);
        place("g1<1", 0);
        place("e1<1", 0);
        place("1<2&alll(1<2)", 4);
        place("1<2|an(1<2)", 4);
        place("Sum f1<1", 0);
        place("sUm f1<1", 0);
        place("1<sum F1", 6);
        fine("all(1<sum f3)");
        fine("any(f1<count f3)");
    }

    private static void digitsOfNumbers() {
        sentence("Terms, NUMBER (1 to 7 digits)");
        for (int digits = 1; digits <= 7; digits++) {
            fine(many("9", digits) + "<1");
            fine("1<" + many("0", digits));
        }
        for (int digits = 8; digits <= 190; digits += digits < 12 ? 1 : 89) {
            place(many("9", digits) + "<1", 0);
            place("1<" + many("0", digits), 2);
            place("1<2 & " + many("1", digits) + "=1", 6);
        }
        CheckRules x = with("9999999>0000000", "0000001<1000000");
        due("largest", 9999999, x.node(0, 1, 1));
        due("zeros alone", 0, x.node(0, 2, 1));
        due("zeros ahead", 1, x.node(1, 1, 1));
        due("zeros behind", 1000000, x.node(1, 2, 1));
    }

    private static void digitsOfFields() {
        sentence("Terms, FIELD: f and 1 or 2 digits");
        for (String ahead : new String[] {"", "sum ", "count "}) {
            int from = 2 + ahead.length();
            place("1<" + ahead + "f", from);
            place("1<" + ahead + "f ", from);
            place("1<" + ahead + "f+1", from);
            fine("1<" + ahead + "f1");
            fine("1<" + ahead + "f01");
            place("1<" + ahead + "f001", from);
            place("1<" + ahead + "f100", from);
            place("1<" + ahead + "f0000000", from);
            place("1<" + ahead + "f11111111111", from);
        }
    }

    private static void fieldsAsNumbers() {
        sentence("Terms, FIELD 0 .. 19 (as a number)");
        for (int field = 0; field <= 99; field++) {
            String two = field < 10 ? "f0" + field : "f" + field;
            if (field <= 19) {
                due(two, field, with(two + "<sum " + two).node(0, 2, 1));
                due("f" + field, field, with("f" + field + "<1").node(0, 1, 1));
            } else {
                place(two + "<1", 0);
                place("1<" + two, 2);
                place("1<sum " + two, 6);
                place("1<count " + two, 8);
            }
        }
    }

    private static void anyTimes() {
        sentence("Terms, AND, and any times | and AND; NOT, and any times & and NOT; TERM, + or -");
        for (int times = 0; times <= 9; times++) {
            fine("1<2" + many("|1<2", times));
            fine("1<2" + many("&1<2", times));
            fine("(1<2" + many("&1<2", times) + ")");
            fine("1" + many("+1", times) + "<1" + many("-1", times));
        }
        place("1<2" + many("|1<2", 10), 4 * 10);
    }

    private static void bracketsBeginARule() {
        sentence("Terms, a ( begins a RULE, never a SUM");
        place("(1)<2", 2);
        place("(1+2)<3", 4);
        place("(f1)=1", 3);
        place("1<(2)", 2);
        place("1+(2)<3", 2);
        place("1<2+(3)", 4);
        place("sum (f1)<1", 4);
        place("(1<2)<3", 5);
        place("(1<2)+3<4", 5);
        fine("((1<2))");
    }

    /** A whole rule of so many nodes, 3 at least. */
    private static String nodes(int count) {
        return (count % 2 == 0 ? "!" : "") + many("1+", (count - 3) / 2) + "1<1";
    }

    private static void nodesUpTo40() {
        sentence("Terms, the tree has 40 NODES at most");
        for (int count = 3; count <= 40; count++) {
            due("nodes of " + nodes(count), count, with(nodes(count)).count(100));
        }
        place(nodes(41), 40);
        place(nodes(42), 40);
        place(nodes(60), 40);
        fine(nodes(36) + "&1<2");
        place(nodes(37) + "&1<2", nodes(37).length() + 3);
    }

    private static void kindsAs40thNode() {
        sentence("Terms, what is the 40th node can stand");
        for (String sign : new String[] {"|", "&", "+", "-"}) {
            place(nodes(39) + sign, nodes(39).length() + 1);
        }
        for (String compare : new String[] {"<", ">", "=", "#"}) {
            place(many("1+", 19) + "1" + compare, 40);
        }
        for (String part : new String[] {"!", "all", "any", "all("}) {
            place(nodes(38) + "&" + part, nodes(38).length() + 1 + part.length());
        }
        for (String term : new String[] {"1", "f1", "sum f1", "count f1"}) {
            fine(nodes(38) + "+" + term);
            fine("!" + many("1+", 18) + "1<" + term);
        }
    }

    private static void kindsAs41stNode() {
        sentence("Terms, the first sign of what would be the 41st node (of | & < > = # + - that sign itself)");
        for (String sign : new String[] {"|", "&", "+", "-"}) {
            place(nodes(40) + sign + "1<2", 40);
            place(nodes(40) + "  " + sign + "1<2", 42);
        }
        for (String compare : new String[] {"<", ">", "=", "#"}) {
            place("!" + many("1+", 19) + "1" + compare + "1", 40);
            place("!" + many("1+", 19) + "1 " + compare + "1", 41);
        }
        for (String part : new String[] {"!1<2", "all(1<2)", "any(1<2)", "1<2", "f1<2", "sum f1<2", "count f1<2"}) {
            place(nodes(39) + "&" + part, 40);
            place(nodes(39) + "|  " + part, 42);
        }
        for (String term : new String[] {"1234567", "f19", "sum f19", "count f19", "count"}) {
            place(nodes(39) + "+" + term, 40);
            place(many("1+", 19) + "1 < " + term, 42);
        }
    }

    private static void bracketsAreNoNodes() {
        sentence("Terms, NODES: ( and ) are none");
        due("nodes", 40, with("((" + nodes(40) + "))").count(100));
        place(nodes(39) + "&((", 42);
        place(nodes(39) + "&((1<2", 42);
    }

    private static final String[] DEEPER = {"!", "(", "all(", "any(", "all  ("};

    private static String closed(String open) {
        StringBuilder b = new StringBuilder(open);
        b.append("1<2");
        for (int i = 0; i < open.length(); i++) {
            b.append(open.charAt(i) == '(' ? ")" : "");
        }
        return b.toString();
    }

    private static void tenDeep() {
        sentence("Terms, nested 10 deep at most: the 10th can stand");
        for (String deeper : DEEPER) {
            for (int depth = 0; depth <= 10; depth++) {
                fine(closed(many(deeper, depth)));
            }
            for (String last : DEEPER) {
                fine(closed(many(deeper, 9) + last));
            }
        }
        fine(closed(many("!(", 5)));
        fine(closed(many("!all(", 5)));
        fine(closed(many("(any(", 5)));
    }

    private static void eleventhDeep() {
        sentence("Terms, the first sign of what would be the 11th deep");
        for (String deeper : DEEPER) {
            String ten = many(deeper, 10);
            for (String last : DEEPER) {
                place(closed(ten + last), ten.length());
                place(closed(ten + "  " + last), ten.length() + 2);
                place(ten + "1<2&" + last, ten.length() + (deeper.equals("!") ? 4 + last.length() : 4));
            }
        }
        place(closed(many("!(", 5) + "!"), 10);
        place(closed("!" + many("!(", 5)), 10);
        place(closed(many("all(!", 5) + "any("), 25);
        place(many("(", 10) + "all", 10);
        place(many("!", 200), 10);
    }

    private static void closedIsNotOpen() {
        sentence("Terms, each ( and each ! that is open counts one");
        String nine = many("!", 9);
        fine(many("!", 10) + "1<2&" + many("!", 10) + "1<2");
        fine(many("!", 10) + "1<2|" + many("(", 10) + "1<2" + many(")", 10));
        fine(closed(many("(", 10)) + "&" + closed(many("any(", 10)));
        fine("(" + nine + "1<2&" + nine + "1<2)|" + many("!", 10) + "1<2");
        fine("!(" + many("!", 8) + "1<2)&" + many("!", 10) + "1<2");
        fine("all(all(1<2)&" + closed(many("all(", 9)) + ")");
        place("!(1<2&" + many("!", 9) + "1<2)", 14);
        place("(" + nine + "1<2&" + nine + "!1<2)", 23);
        place("(" + closed(many("(", 9)) + "&" + closed(many("(", 10)) + ")", 32);
        place("!!(1<2&(1<2)&" + many("!", 8) + "1<2)", 20);
    }

    private static void firstOfSeveralWrongPlaces() {
        sentence("Terms, THE FIRST WRONG PLACE is the first one");
        place("x<y", 0);
        place("1<<2 x", 2);
        place("1<2 x y", 4);
        place("f20<f21", 0);
        place("1<f20&12345678<1", 2);
        place("1<12345678&f20<1", 2);
        place(") " + nodes(42), 0);
        place(nodes(42) + ")", 40);
        place(many("!", 11) + nodes(42), 10);
        place(")" + many("!", 11), 0);
        place("1<2)" + many("!", 11), 3);
        place("(1<2&" + many("(", 10) + nodes(60), 14);
    }

    private static void endsTooEarly() {
        sentence("Terms, the length, if it ends too early");
        String whole = "( ! all ( f1 + 2 < sum f3 - count f4 ) & any ( 1 > 2 ) ) ";
        // Where a part of it ends within a word or field, that one is none, and wrong at its first sign.
        for (int length = 0; length < whole.length() - 2; length++) {
            place(whole.substring(0, length), firstSignOfPiece(whole, length));
        }
        fine(whole.substring(0, whole.length() - 1));
        fine(whole);
        place("1<2&  ", 6);
        place("(1<2", 4);
        place("((1<2)", 6);
    }

    private static int firstSignOfPiece(String whole, int length) {
        int from = length;
        while (from > 0 && whole.charAt(from - 1) >= 'a' && whole.charAt(from - 1) <= 'z') {
            from--;
        }
        String piece = whole.substring(from, length);
        boolean word = piece.equals("all") || piece.equals("any") || piece.equals("sum") || piece.equals("count");
        return word ? length : from;
    }

    private static void all200SignsAreRead() {
        sentence("Terms, THE TEXT has 200 signs at most: each of them is read");
        String nine = many("(", 9) + "1<2" + many(")", 9);
        String full = "!" + many(nine + "&", 8) + "(" + nine + ")";
        due("signs", 200, full.length());
        fine(full);
        place(full.substring(0, 199), 199);
        place(full.substring(0, 199) + "]", 199);
        place(full.substring(0, 199) + " ", 200);
        place("!" + full.substring(0, 199), 10);
    }

    private static void firstAndLastWrongPlace() {
        sentence("Promise 3, -1 less THE FIRST WRONG PLACE");
        due("no text: place 0", -1, call(() -> new CheckRules().rule()));
        due("place 0", -1, rule(new CheckRules(), ")"));
        due("place 1", -2, rule(new CheckRules(), "1)"));
        due("place 199", -200, rule(new CheckRules(), many(" ", 199) + ")"));
        due("place 200: it ends too early", -201, rule(new CheckRules(), many(" ", 200)));
        due("place 200 behind a part", -201, rule(new CheckRules(), "1<" + many(" ", 198)));
        due("200 signs that are a rule", 0, rule(new CheckRules(), "1<2" + many(" ", 197)));
    }

    private static void textIsUsedUp() {
        sentence("Promise 3, the text is used up in both cases");
        CheckRules x = new CheckRules();
        due("a rule", 0, rule(x, "1<2"));
        due("no sign is left", 0, x.count(0));
        due("no text, no rule", -1, call(x::rule));
        due("wrong", -2, rule(x, "1)"));
        due("no sign is left", 0, x.count(0));
        due("nothing of it comes back", 1, rule(x, "1<3"));
        due("nodes left from before are none of it", 3, x.count(101));
        due("its number", 3, x.node(1, 2, 1));
        due("wrong at the 11th deep", -11, rule(x, many("(", 11)));
        due("wrong with 10 open", -11, rule(x, many("!", 10)));
        due("nothing of it is open any more", 2, rule(x, closed(many("(", 10))));
        due("wrong at the 41st node", -41, rule(x, nodes(42)));
        due("no node of it is left", 3, rule(x, nodes(40)));
        due("40 nodes", 40, x.count(103));
    }

    private static void numbersOfRules() {
        sentence("Promise 3, a rule's number: 0, 1, ..");
        CheckRules x = new CheckRules();
        for (int i = 0; i < 20; i++) {
            due("a wrong one takes no number", -3, rule(x, "1<"));
            due("rules", i, x.count(1));
            due("number", i, rule(x, "1<" + i));
            due("rules", i + 1, x.count(1));
        }
        for (int i = 0; i < 20; i++) {
            due("its own tree", i, x.node(i, 2, 1));
        }
    }

    private static void twentyRulesAtMost() {
        sentence("Promise 3, IllegalStateException if there are 20 rules (the text stays)");
        CheckRules x = new CheckRules();
        for (int i = 0; i < 20; i++) {
            due("rule " + i, i, rule(x, "1<2"));
        }
        due("without a text", STATE, call(x::rule));
        due("with a wrong text", STATE, rule(x, ")"));
        due("it stays", 1, x.count(0));
        due("with the same again", STATE, call(x::rule));
        due("it stays", 1, x.count(0));
        type(x, "1<2");
        due("it goes on", 4, x.count(0));
        due("20 rules", 20, x.count(1));
        due("none came behind the last", -1, x.count(120));
        CheckRules y = new CheckRules();
        for (int i = 0; i < 20; i++) {
            due("rule " + i, i, rule(y, "1<2"));
        }
        due("with a text that would be a rule", STATE, rule(y, "1<3"));
        due("it stays", 3, y.count(0));
        due("the last rule is as it was", 2, y.node(19, 2, 1));
    }

    private static void fromTheLeft() {
        sentence("Terms, | & + - go from the left");
        CheckRules x = with("1+2-3<4", "1-2+3<4", "1<2|1<3|1<4", "1<2&1<3&1<4", "1<2|1<3&1<4|1<5");
        kinds(x, 0, 5, 10, 9, 11, 11, 11, 11);
        kinds(x, 1, 5, 9, 10, 11, 11, 11, 11);
        kinds(x, 2, 0, 0, 5, 11, 11, 5, 11, 11, 5, 11, 11);
        kinds(x, 3, 1, 1, 5, 11, 11, 5, 11, 11, 5, 11, 11);
        kinds(x, 4, 0, 0, 5, 11, 11, 1, 5, 11, 11, 5, 11, 11, 5, 11, 11);
    }

    private static void kinds(CheckRules x, int rule, int... want) {
        due("nodes of rule " + rule, want.length, x.count(100 + rule));
        for (int i = 0; i < want.length; i++) {
            due("kind of node " + i + " of rule " + rule, want[i], x.node(rule, i, 0));
        }
    }

    private static void touchOfFields() {
        sentence("Promise 14, how many rules name a field; IllegalArgumentException if there is no such field");
        CheckRules x = new CheckRules();
        for (int field = 0; field <= 19; field++) {
            due("without rules", 0, x.touch(field));
        }
        due("a wrong text names nothing", -7, rule(x, "f0<f19)"));
        due("field 19 of a wrong text", 0, x.touch(19));
        due("rule", 0, rule(x, "f0<f19"));
        due("field 0", 1, x.touch(0));
        due("field 19", 1, x.touch(19));
        due("field 1", 0, x.touch(1));
        for (int none : outside(0, 19)) {
            due("field " + none, ARGUMENT, call(() -> x.touch(none)));
        }
        due("a number is no field", 1, rule(x, "1<18"));
        due("field 18", 0, x.touch(18));
        due("a field twice, a sum and a count of it: one rule", 2, rule(x, "f5<f5+sum f5-count f5"));
        due("field 5", 1, x.touch(5));
        due("as a sum", 3, rule(x, "1<sum f5"));
        due("as a count", 4, rule(x, "!all(1<count f5)"));
        due("field 5 in three rules", 3, x.touch(5));
        for (int i = 5; i < 20; i++) {
            due("rule", i, rule(x, "f7<1"));
        }
        due("field 7 in all up to the 20th", 15, x.touch(7));
    }

    private static void nodesThatAre() {
        sentence("Promise 16, IndexOutOfBoundsException if there is none such");
        CheckRules x = new CheckRules();
        due("without rules", INDEX, call(() -> x.node(0, 0, 0)));
        due("rule", 0, rule(x, nodes(40)));
        due("rule", 1, rule(x, "1<2"));
        for (int none : outside(0, 1)) {
            due("rule " + none, INDEX, call(() -> x.node(none, 0, 0)));
        }
        for (int none : outside(0, 39)) {
            due("node " + none, INDEX, call(() -> x.node(0, none, 0)));
        }
        for (int none : outside(0, 2)) {
            due("node " + none + " of 3", INDEX, call(() -> x.node(1, none, 1)));
        }
        for (int none : outside(0, 3)) {
            due("what " + none, INDEX, call(() -> x.node(1, 0, none)));
        }
        due("first node", 2, x.node(0, 0, 0));
        due("last node", 11, x.node(0, 39, 0));
        due("its value", 1, x.node(0, 39, 1));
        due("nothing left below it", -1, x.node(0, 39, 2));
        due("nothing right below it", -1, x.node(0, 39, 3));
        due("the last node on the right", 39, x.node(0, 1, 3));
        due("last node of 3", 2, x.node(1, 2, 1));
    }

    private static void nodesBelow() {
        sentence("Promise 16, the nodes below it (left, right; NONE without; of one alone the left)");
        String[] two = {"1<2|1<2", "1<2&1<2", "1<2", "1>2", "1=2", "1#2", "1+2<3", "1-2<3"};
        int[] kinds = {0, 1, 5, 6, 7, 8, 9, 10};
        for (int i = 0; i < two.length; i++) {
            int at = kinds[i] >= 9 ? 1 : 0;
            CheckRules x = with(two[i]);
            due("kind", kinds[i], x.node(0, at, 0));
            due("value of kind " + kinds[i], -1, x.node(0, at, 1));
            due("left of kind " + kinds[i], at + 1, x.node(0, at, 2));
            due("right of kind " + kinds[i], i < 2 ? 4 : at + 2, x.node(0, at, 3));
        }
        String[] one = {"!1<2", "all(1<2)", "any(1<2)"};
        for (int i = 0; i < one.length; i++) {
            CheckRules x = with(one[i]);
            due("kind", 2 + i, x.node(0, 0, 0));
            due("value of kind " + (2 + i), -1, x.node(0, 0, 1));
            due("left of kind " + (2 + i), 1, x.node(0, 0, 2));
            due("right of kind " + (2 + i), -1, x.node(0, 0, 3));
        }
    }

    private static void valuesOfNodes() {
        sentence("Promise 16, its NUMBER or field (NONE else)");
        CheckRules x = with("0+f0-sum f19<count f9+9999999");
        int[][] want = {{5, -1}, {10, -1}, {9, -1}, {11, 0}, {12, 0}, {13, 19}, {9, -1}, {14, 9}, {11, 9999999}};
        for (int i = 0; i < want.length; i++) {
            due("kind of node " + i, want[i][0], x.node(0, i, 0));
            due("value of node " + i, want[i][1], x.node(0, i, 1));
            if (want[i][0] >= 11) {
                due("left of node " + i, -1, x.node(0, i, 2));
                due("right of node " + i, -1, x.node(0, i, 3));
            }
        }
    }

    private static void printedBrackets() {
        sentence("Promise 17, ( ) about an OR below an AND or NOT, an AND below a NOT, on the right of its own kind");
        String[] below = {"1=2|1=3", "1=2&1=3", "!1=2", "all(1=2)", "any(1=2)", "1<2", "1>2", "1=2", "1#2"};
        for (int i = 0; i < below.length; i++) {
            String plain = below[i];
            String wrapped = "(" + plain + ")";
            prints(wrapped, plain);
            prints(wrapped + "|1=1", plain + "|1=1");
            prints("1=1|" + wrapped, "1=1|" + (i == 0 ? wrapped : plain));
            prints(wrapped + "&1=1", (i == 0 ? wrapped : plain) + "&1=1");
            prints("1=1&" + wrapped, "1=1&" + (i <= 1 ? wrapped : plain));
            prints("!" + wrapped, "!" + (i <= 1 ? wrapped : plain));
            prints("all(" + wrapped + ")", "all(" + plain + ")");
            prints("any((" + wrapped + "))", "any(" + plain + ")");
        }
    }

    private static void printedNumbers() {
        sentence("Promise 17, without blanks but behind sum and count (one); numbers without 0 ahead");
        prints("0000000<0", "0<0");
        prints("0000001<01", "1<1");
        prints("0000010<9999999", "10<9999999");
        prints("1000000<0999999", "1000000<999999");
        prints("0100200<1002003", "100200<1002003");
        prints("f00<f09", "f0<f9");
        prints("f10<f19", "f10<f19");
        prints("sum  f00<count   f09", "sum f0<count f9");
        prints(" ! ( 1 + f1 - sum f2 < 2 | 1 = 1 ) ", "!(1+f1-sum f2<2|1=1)");
        prints("any ( 1 > count f1 ) & all ( 1 # 2 )", "any(1>count f1)&all(1#2)");
    }

    private static void shortestAndLongestPrint() {
        sentence("Promise 17, how many signs");
        due("3 signs", 3, with("  1 < 2  ").print(0));
        String longest = "!" + many("count f19-", 19).replaceFirst("-", "<") + "count f19";
        due("200 signs", 200, longest.length());
        CheckRules x = with(longest);
        due("40 nodes", 40, x.count(100));
        due("200 signs printed", 200, x.print(0));
        due("the first", '!', x.at(0));
        due("the last", '9', x.at(199));
        due("behind the last", INDEX, call(() -> x.at(200)));
        prints(longest, longest);
        String deepest = many("!(1<2&", 5) + "1<2" + many(")", 5);
        prints(deepest, deepest);
        String right = many("1<2|(", 9) + "1<2" + many(")", 9);
        prints(right, right.replace("(1<2)", "1<2"));
    }

    private static void printOfNoRule() {
        sentence("Promise 17, IllegalArgumentException if there is no such rule");
        CheckRules x = new CheckRules();
        due("without rules", ARGUMENT, call(() -> x.print(0)));
        for (int i = 0; i < 20; i++) {
            due("rule", i, rule(x, i + "<2"));
            due("print of the last", i < 10 ? 3 : 4, x.print(i));
            int next = i + 1;
            due("print behind the last", ARGUMENT, call(() -> x.print(next)));
        }
        for (int none : outside(0, 19)) {
            due("print of rule " + none, ARGUMENT, call(() -> x.print(none)));
        }
        due("what was printed last stays", '9', x.at(1));
    }

    private static void signsPrinted() {
        sentence("Promise 18, sign i of what was printed last; IndexOutOfBoundsException if there is none such");
        CheckRules x = with("1<2", "f1 < f2");
        for (int none : outside(0, 0)) {
            due("nothing printed: at " + none, INDEX, call(() -> x.at(none)));
        }
        due("nothing printed: at 0", INDEX, call(() -> x.at(0)));
        due("print", 5, x.print(1));
        for (int none : outside(0, 4)) {
            due("5 printed: at " + none, INDEX, call(() -> x.at(none)));
        }
        due("first", 'f', x.at(0));
        due("last", '2', x.at(4));
        due("print of a shorter one", 3, x.print(0));
        due("last", '2', x.at(2));
        due("of the longer one nothing is left", INDEX, call(() -> x.at(3)));
        due("refused print", ARGUMENT, call(() -> x.print(2)));
        due("stays", '1', x.at(0));
        due("stays as long", INDEX, call(() -> x.at(3)));
        type(x, "f3=4");
        due("signs of a text are not printed", '<', x.at(1));
        due("rule", 2, call(x::rule));
        due("a rule is not printed by being read", '1', x.at(0));
        due("a wrong text", -3, rule(x, "f1"));
        due("nor does it take away what was printed", '2', x.at(2));
    }

    private static void countsOfText() {
        sentence("Promise 19, what 0: signs of the text, 1: rules, from 100 on nodes; NONE for another what or rule");
        CheckRules x = new CheckRules();
        due("no signs", 0, x.count(0));
        due("no rules", 0, x.count(1));
        due("nodes without rules", -1, x.count(100));
        for (int i = 0; i < 20; i++) {
            due("rule", i, rule(x, i % 2 == 0 ? "1<2" : "!1<2"));
            due("rules", i + 1, x.count(1));
            due("nodes of the last rule", i % 2 == 0 ? 3 : 4, x.count(100 + i));
            due("nodes behind the last rule", -1, x.count(101 + i));
        }
        for (int none : new int[] {-1, -100, 6, 7, 50, 98, 99, 120, 121, 1000, 100 + 65536, LEAST, MOST}) {
            due("count " + none, -1, x.count(none));
        }
        type(x, many("1", 200));
        due("200 signs", 200, x.count(0));
    }
}
