/** Each promise of the document by itself: ordinary inputs, edges and wrong inputs. */
public final class CheckRulesPromises extends Answers {
    public static void main(String[] args) {
        newObject();
        signs();
        ruleNumbers();
        tokenPlaces();
        grammarPlaces();
        nodeLimit();
        depthLimit();
        twentyRules();
        orders();
        editions();
        days();
        fields();
        withouts();
        threeAnswers();
        sumsAndCounts();
        linesOfAllAndAny();
        deepAllEndsSoon();
        checks();
        bads();
        wasAndIs();
        answers();
        answersGo();
        answersAndEditions();
        touches();
        nevers();
        nodes();
        printing();
        ats();
        counts();
        tell();
    }

    // Promise 1
    private static void newObject() {
        CheckRules x = new CheckRules();
        for (int what = 0; what <= 5; what++) {
            due("count " + what + " of a new object", 0, x.count(what));
        }
        due("NONE", -1, CheckRules.NONE);
        due("rule of no text", -1, call(x::rule));
        due("is of no rule", ARGUMENT, call(() -> x.is(0)));
        due("bad of a new object", -1, x.bad(0, true));
        due("check of a new object", -1, x.check());
        due("nothing printed", INDEX, call(() -> x.at(0)));
    }

    // Promise 2
    private static void signs() {
        CheckRules x = new CheckRules();
        no("sign 31", x.sign(31));
        no("sign 127", x.sign(127));
        no("sign -1", x.sign(-1));
        no("sign 32 + 65536", x.sign(65568));
        no("least", x.sign(Integer.MIN_VALUE));
        yes("sign 32", x.sign(32));
        yes("sign 126", x.sign(126));
        due("two signs", 2, x.count(0));
        for (int i = 2; i < 200; i++) {
            yes("sign " + i, x.sign(' '));
        }
        no("sign 201", x.sign(' '));
        due("200 signs", 200, x.count(0));
        due("~ is wrong", -2, call(x::rule));
        due("used up", 0, x.count(0));
    }

    // Promise 3
    private static void ruleNumbers() {
        CheckRules x = new CheckRules();
        due("first", 0, rule(x, "1<2"));
        due("used up", 0, x.count(0));
        due("wrong", -3, rule(x, "1<"));
        due("used up when wrong", 0, x.count(0));
        due("no rule came", 1, x.count(1));
        due("second", 1, rule(x, "  f1 = 2  "));
        StringBuilder full = new StringBuilder("1<2");
        while (full.length() < 200) {
            full.append(' ');
        }
        due("200 signs", 2, rule(x, full.toString()));
    }

    private static void tokenPlaces() {
        place("", 0);
        place("   ", 3);
        place("12345678<1", 0);
        fine("1234567<1");
        fine("0000000<1");
        place("00000000<1", 0);
        place("1<12345678", 2);
        place("1 2<3", 2);
        place("f20=1", 0);
        fine("f19=1");
        fine("f0=f00");
        place("f123=1", 0);
        place("f001=1", 0);
        place("f=1", 0);
        place("f 1=1", 0);
        place("1=f", 2);
        place("1=f1x", 4);
        place("1=f1f2", 4);
        place("1=1f2", 3);
        place("ff1=1", 0);
        place("sumf3=1", 0);
        place("1<sum f20", 6);
        place("1<sum 3", 6);
        place("1<sum3", 5);
        place("1<sum", 5);
        place("1<sum  ", 7);
        place("1<sum sum f1", 6);
        place("sums f1<1", 0);
        fine("count f1<sum f2");
        place("su f1<1", 0);
        place("al(1<2)", 0);
        place("alls(1<2)", 0);
        place("allz(1<2)", 0);
        place("zall(1<2)", 0);
        place("fz1=1", 0);
        place("ALL(1<2)", 0);
        place("all1<2", 3);
        place("1<2&al", 4);
        place("1<2 x", 4);
        place("1<2;", 3);
        place("s um f1<1", 0);
    }

    private static void grammarPlaces() {
        place("(1<2", 4);
        place("1<2)", 3);
        place("(1)<2", 2);
        place("(f1+1)<2", 5);
        place("1<(2)", 2);
        place("1<2<3", 3);
        place("1<2=1", 3);
        place("1", 1);
        place("1 ", 2);
        place("1+", 2);
        place("1&2<3", 1);
        place("-1<2", 0);
        place("1<-2", 2);
        place("1<2&", 4);
        place("1<2&&1<2", 4);
        place("1<2|)", 4);
        place("!", 1);
        place("!1", 2);
        place("1!<2", 1);
        place("1<!2", 2);
        place("1<2!", 3);
        place("all 1<2", 4);
        place("all", 3);
        place("all()", 4);
        place("all(1<2", 7);
        place("1<all(1<2)", 2);
        place("(1<2)(1<2)", 5);
        place("(1<2)1", 5);
        place("(1<2)+1", 5);
        place("(1<2)<1", 5);
        place("()", 1);
        place("|1<2", 0);
        fine("any ( ! ( 1<2 ) )");
        fine("((1<2)|(1<2))&!!1<2");
    }

    private static void nodeLimit() {
        String nodes39 = many("1+", 18) + "1<1";
        fine(nodes39);
        String nodes37 = many("1+", 17) + "1<1";
        place(nodes39 + "&1<2", 40);
        fine("!" + nodes39);
        place("!!" + nodes39, 40);
        place("!" + nodes39 + "&1<2", 40);
        place("!" + nodes39 + "|1<2", 40);
        place("!" + nodes39 + " + 1", 41);
        place(nodes39 + "&sum f20<1", 40);
        place(nodes39 + "& all 1", 41);
        place(nodes39 + "& !1<2", 41);
        place(nodes37 + "&1<2", 40);
        place(many("1+", 19) + "1+1<1", 40);
        place(many("1+", 19) + "1 < 1", 42);
        place(many("1+", 19) + "1 <  < 1", 43);
        place("!" + many("1+", 19) + "1<1", 40);
        CheckRules x = with("!" + nodes39);
        due("40 nodes", 40, x.count(100));
        fine("1<2&1<2&1<2&1<2&1<2&1<2&1<2&1<2&1<2&1<2");
        place("1<2&1<2&1<2&1<2&1<2&1<2&1<2&1<2&1<2&1<2&1<2", 40);
    }

    private static void depthLimit() {
        fine(many("!", 10) + "1<2");
        place(many("!", 11) + "1<2", 10);
        fine(many("(", 10) + "1<2" + many(")", 10));
        place(many("(", 11) + "1<2" + many(")", 11), 10);
        fine(many("all(", 10) + "1<2" + many(")", 10));
        place(many("all(", 10) + "any(1<2)" + many(")", 10), 40);
        place(many("all (", 10) + " all 1", 51);
        place(many("!(", 5) + "!1<2", 10);
        fine(many("!(", 5) + "1<2" + many(")", 5));
        fine(many("!", 10) + "1<2&" + many("!", 10) + "1<2");
        fine("(" + many("!", 9) + "1<2|" + many("!", 9) + "1<2)&" + many("!", 10) + "1<2");
        place("(" + many("!", 9) + "1<2|" + many("!", 10) + "1<2)", 23);
        fine("!(1<2)&" + many("(", 10) + "1<2" + many(")", 10));
        place("!(1<2&" + many("(", 9) + "1<2" + many(")", 10), 14);
    }

    private static void twentyRules() {
        CheckRules x = new CheckRules();
        for (int i = 0; i < 20; i++) {
            due("rule " + i, i, rule(x, "1<2"));
        }
        due("the 21st", STATE, rule(x, "1<"));
        due("the text stays", 2, x.count(0));
        due("20 rules", 20, x.count(1));
        due("again", STATE, call(x::rule));
        due("is of the last", 1, call(() -> x.is(19)));
        due("is behind the last", ARGUMENT, call(() -> x.is(20)));
    }

    // Promise 4
    private static void orders() {
        CheckRules x = with("1<1", "1<1", "1<1");
        due("hard and of group 0 at first", 0, x.check());
        yes("order", x.order(0, 9, true));
        due("groups when it is asked", 1, x.bad(0, true));
        due("last group last", 0, x.bad(2, true));
        no("group 10", x.order(1, 10, false));
        no("group -1", x.order(1, -1, false));
        no("rule 3", x.order(3, 0, false));
        no("rule -1", x.order(-1, 0, false));
        due("nothing changed", 3, x.count(3));
        yes("soft", x.order(1, 0, false));
        due("open when it is asked", 1, x.count(4));
        due("broken when it is asked", 2, x.count(3));
        due("open", 1, x.bad(0, false));
    }

    // Promise 5
    private static void editions() {
        CheckRules x = with("1<1");
        yes("edition 100000", x.edition(0, 100000));
        no("edition 100001", x.edition(0, 100001));
        no("edition -1", x.edition(0, -1));
        no("no rule", x.edition(1, 5));
        no("rule -1", x.edition(-1, 5));
        due("not yet", -1, x.check());
        due("was not worked out", -1, call(() -> x.was(0)));
        yes("day", x.day(99999));
        due("one day ahead", -1, x.check());
        yes("day", x.day(100000));
        due("on its day", 0, x.check());
        yes("edition 0", x.edition(0, 0));
        yes("edition 7", x.edition(0, 7));
        due("still broken", 0, x.bad(0, true));
        yes("day", x.day(6));
        due("no more", -1, x.check());
        due("not bad", 0, x.count(3));
        due("was stays", 0, call(() -> x.was(0)));
    }

    // Promise 6
    private static void days() {
        CheckRules x = with("1<1");
        yes("edition", x.edition(0, 5));
        yes("day 5", x.day(5));
        no("day -1", x.day(-1));
        no("day 100001", x.day(100001));
        due("day 5 stays", 0, x.check());
        yes("day 0", x.day(0));
        due("day 0", -1, x.check());
        yes("day 100000", x.day(100000));
        due("day 100000", 0, x.check());
    }

    // Promise 7
    private static void fields() {
        CheckRules x = with("f19=1000000", "f0=0-1000000", "f0=5");
        no("field 20", x.field(20, 0, 1));
        no("field -1", x.field(-1, 0, 1));
        no("line 10", x.field(0, 10, 1));
        no("line -1", x.field(1, -1, 1));
        no("value 1000001", x.field(0, 0, 1000001));
        no("value -1000001", x.field(0, 0, -1000001));
        no("least value", x.field(0, 0, Integer.MIN_VALUE));
        due("nothing is there", 0, x.count(5));
        due("no value", 2, call(() -> x.is(1)));
        yes("largest", x.field(19, 0, 1000000));
        yes("smallest", x.field(0, 0, -1000000));
        due("largest is there", 1, call(() -> x.is(0)));
        due("smallest is there", 1, call(() -> x.is(1)));
        yes("another value", x.field(0, 0, 5));
        due("it is there", 1, call(() -> x.is(2)));
        due("the head is no line", 0, x.count(5));
        yes("line 9", x.field(19, 9, 0));
        yes("line 1", x.field(0, 1, 0));
        due("lines 1 and 9", 2 + 512, x.count(5));
    }

    // Promise 8
    private static void withouts() {
        CheckRules x = with("f3=1");
        no("had none", x.without(3, 0));
        yes("value", x.field(3, 0, 1));
        no("other line", x.without(3, 1));
        no("other field", x.without(2, 0));
        no("field 20", x.without(20, 0));
        no("field -1", x.without(-1, 0));
        no("line 10", x.without(0, 10));
        no("line -1", x.without(3, -1));
        due("still there", 1, call(() -> x.is(0)));
        yes("away", x.without(3, 0));
        no("away already", x.without(3, 0));
        due("not known", 2, call(() -> x.is(0)));
        yes("line 4", x.field(3, 4, 0));
        yes("line 4 twice", x.field(5, 4, 0));
        yes("one away", x.without(3, 4));
        due("line 4 is there", 16, x.count(5));
        yes("both away", x.without(5, 4));
        due("line 4 is not there", 0, x.count(5));
    }

    private static final String[] ANSWERS = {"0=1", "0=0", "f0=0"};

    private static void threeAnswers() {
        int[] or = {0, 1, 2, 1, 1, 1, 2, 1, 2};
        int[] and = {0, 0, 0, 0, 1, 2, 0, 2, 2};
        int[] not = {1, 0, 2};
        for (int a = 0; a < 3; a++) {
            due("not " + a, not[a], isOf("!" + ANSWERS[a]));
            for (int b = 0; b < 3; b++) {
                due(a + " or " + b, or[3 * a + b], isOf(ANSWERS[a] + "|" + ANSWERS[b]));
                due(a + " and " + b, and[3 * a + b], isOf(ANSWERS[a] + "&" + ANSWERS[b]));
            }
        }
        String[] comparisons = {"1<2", "2<1", "1<1", "2>1", "1>2", "1>1", "1=1", "1=2", "1#2", "1#1"};
        int[] want = {1, 0, 0, 1, 0, 0, 1, 0, 1, 0};
        for (int i = 0; i < comparisons.length; i++) {
            due(comparisons[i], want[i], isOf(comparisons[i]));
        }
        due("minus goes from the left", 1, isOf("9-3-2=4"));
        due("minus and plus", 1, isOf("9-3+2=8"));
        due("and binds closer", 1, isOf("1=1|1=1&1=2"));
        due("not binds closest", 0, isOf("!1=1&1=2"));
        due("none in a plus", 2, isOf("f0+1=1"));
        due("none in a minus", 2, isOf("1-f0#1"));
        due("beyond a million", 1, isOf("9999999+9999999-9999998=9999999+1"));
    }

    private static void sumsAndCounts() {
        CheckRules x = with("sum f1=0", "count f1=0", "sum f1=9000000", "count f1=9", "f1=7",
                "any(sum f1>f1)", "sum f1=0-2");
        yes("head", x.field(1, 0, 7));
        due("sum without", 1, x.is(0));
        due("count without", 1, x.is(1));
        for (int line = 1; line <= 9; line++) {
            yes("line", x.field(1, line, 1000000));
        }
        due("sum without the head", 1, x.is(2));
        due("count without the head", 1, x.is(3));
        due("field of the head", 1, x.is(4));
        due("a sum is the same on each line", 1, x.is(5));
        for (int line = 2; line <= 9; line++) {
            yes("line", x.without(1, line));
        }
        yes("line", x.field(1, 1, -2));
        due("sum below 0", 1, x.is(6));
    }

    private static void linesOfAllAndAny() {
        CheckRules x = with("all(f0=1)", "any(f0=1)", "all(any(f0=1))", "any(all(f0>0))", "f0=3&any(f0=2)");
        due("all without lines", 1, x.is(0));
        due("any without lines", 0, x.is(1));
        due("all of any without lines", 1, x.is(2));
        yes("head", x.field(0, 0, 3));
        due("the head is no line", 1, x.is(0));
        yes("line 9", x.field(0, 9, 1));
        due("all on line 9", 1, x.is(0));
        due("any on line 9", 1, x.is(1));
        yes("line 2 by another field", x.field(5, 2, 1));
        due("all: not known on line 2", 2, x.is(0));
        due("any: one is enough", 1, x.is(1));
        due("any(all): not known", 2, x.is(3));
        yes("line 2", x.field(0, 2, 2));
        due("all: false on line 2", 0, x.is(0));
        due("all(any)", 1, x.is(2));
        due("any(all)", 1, x.is(3));
        due("head and line", 1, x.is(4));
        yes("line 9 another", x.field(0, 9, 0));
        due("any: false on both", 0, x.is(1));
        yes("line 2 away", x.without(0, 2));
        due("any: not known on line 2", 2, x.is(1));
    }

    private static void deepAllEndsSoon() {
        CheckRules x = with(many("all(", 10) + "f0=1" + many(")", 10));
        for (int line = 1; line <= 9; line++) {
            yes("line", x.field(0, line, 1));
        }
        for (int i = 0; i < 200; i++) {
            due("deep all", 1, x.is(0));
        }
        yes("line 9", x.field(0, 9, 2));
        due("deep all", 0, x.is(0));
    }

    // Promise 9
    private static void checks() {
        CheckRules x = with("f0=1", "f1=1", "1=1");
        due("by numbers", 0, x.check());
        yes("order", x.order(0, 1, true));
        due("by groups", 1, x.check());
        yes("f1", x.field(1, 0, 1));
        due("before a check", 1, x.bad(0, true));
        due("after it", 0, x.check());
        yes("soft", x.order(0, 1, false));
        due("open is not broken", -1, x.check());
        due("checks", 4, x.count(2));
    }

    // Promise 10
    private static void bads() {
        CheckRules x = with("1=2", "f0=1", "1=1", "1=2", "1=2");
        due("before the first check", -1, x.bad(0, true));
        yes("order", x.order(0, 3, true));
        yes("order", x.order(1, 2, true));
        yes("order", x.order(3, 2, true));
        yes("order", x.order(4, 0, false));
        due("check", 1, x.check());
        due("0", 1, x.bad(0, true));
        due("1", 3, x.bad(1, true));
        due("2", 0, x.bad(2, true));
        due("3", -1, x.bad(3, true));
        due("-1", -1, x.bad(-1, true));
        due("least", -1, x.bad(Integer.MIN_VALUE, true));
        due("most", -1, x.bad(Integer.MAX_VALUE, false));
        due("open", 4, x.bad(0, false));
        due("open 1", -1, x.bad(1, false));
        due("a later rule", 5, rule(x, "1=2"));
        due("is not bad yet", 3, x.count(3));
    }

    // Promises 11, 12
    private static void wasAndIs() {
        CheckRules x = with("f0=1");
        due("never", -1, x.was(0));
        due("is", 2, x.is(0));
        due("is changes nothing", -1, x.was(0));
        due("check", 0, x.check());
        due("was not known", 2, x.was(0));
        yes("f0", x.field(0, 0, 1));
        due("was stays", 2, x.was(0));
        due("is", 1, x.is(0));
        due("check", -1, x.check());
        due("was 1", 1, x.was(0));
        yes("f0", x.field(0, 0, 0));
        yes("edition", x.edition(0, 1));
        due("is though it is of a later day", 0, x.is(0));
        due("check", -1, x.check());
        due("was when it was worked out", 1, x.was(0));
        for (int none : new int[] {-1, 1, 20, Integer.MAX_VALUE, Integer.MIN_VALUE}) {
            due("was " + none, ARGUMENT, call(() -> x.was(none)));
            due("is " + none, ARGUMENT, call(() -> x.is(none)));
        }
    }

    // Promise 13
    private static void answers() {
        CheckRules x = with("f0=1", "1=1", "f0=1");
        yes("soft", x.order(0, 0, false));
        yes("soft", x.order(1, 0, false));
        no("not worked out", x.answer(0));
        due("check", 2, x.check());
        no("was 1", x.answer(1));
        no("hard", x.answer(2));
        no("rule 3", x.answer(3));
        no("rule -1", x.answer(-1));
        yes("f0", x.field(0, 0, 1));
        yes("is 1, but was 2", x.answer(0));
        yes("once more", x.answer(0));
        yes("f0", x.without(0, 0));
        due("open since the check", 0, x.bad(0, false));
        due("check", 2, x.check());
        due("not open", 0, x.count(4));
        due("worked out all the same", 2, x.was(0));
        yes("hard again", x.order(0, 0, true));
        due("it has an answer", 2, x.check());
        due("rule 2 alone", 1, x.count(3));
    }

    private static void answersGo() {
        CheckRules x = with("f0=1");
        yes("soft", x.order(0, 0, false));
        x.check();
        yes("answer to 2", x.answer(0));
        x.check();
        x.check();
        due("it stays", 0, x.count(4));
        yes("f0", x.field(0, 0, 0));
        x.check();
        due("0 is another than 2", 1, x.count(4));
        yes("answer to 0", x.answer(0));
        x.check();
        due("answered", 0, x.count(4));
        yes("f0", x.field(0, 0, 1));
        x.check();
        yes("f0", x.field(0, 0, 0));
        x.check();
        due("1 between has taken it", 1, x.count(4));
        yes("answer", x.answer(0));
        yes("f0", x.field(0, 0, 1));
        yes("f0", x.field(0, 0, 0));
        x.check();
        due("no check between", 0, x.count(4));
        yes("f0", x.without(0, 0));
        x.check();
        due("2 is another than 0", 0, x.bad(0, false));
    }

    private static void answersAndEditions() {
        CheckRules x = with("f0=1");
        yes("soft", x.order(0, 0, false));
        yes("edition", x.edition(0, 3));
        yes("day", x.day(3));
        x.check();
        yes("answer", x.answer(0));
        yes("day", x.day(2));
        x.check();
        due("not to check", 0, x.count(4));
        yes("day", x.day(3));
        x.check();
        due("as it was when worked out: the answer stays", 0, x.count(4));
        yes("day", x.day(2));
        yes("f0", x.field(0, 0, 0));
        x.check();
        yes("day", x.day(3));
        x.check();
        due("another than when worked out", 1, x.count(4));
    }

    // Promise 14
    private static void touches() {
        CheckRules x = with("f1=f1", "sum f1=1", "count f1=2", "all(f2=1)|19=1", "1=2");
        due("field 1", 3, x.touch(1));
        due("field 2", 1, x.touch(2));
        due("a number is no field", 0, x.touch(19));
        due("field 0", 0, x.touch(0));
        due("field 20", ARGUMENT, call(() -> x.touch(20)));
        due("field -1", ARGUMENT, call(() -> x.touch(-1)));
    }

    // Promise 15
    private static void nevers() {
        CheckRules x = with("f0=1", "1=2", "1=1", "1=2");
        due("before a check", -1, x.never(0));
        yes("edition", x.edition(1, 5));
        yes("group", x.order(3, 0, false));
        yes("group", x.order(0, 9, true));
        x.check();
        due("by number", 0, x.never(0));
        due("not worked out yet is left out", 3, x.never(1));
        due("no more", -1, x.never(2));
        due("-1", -1, x.never(-1));
        due("least", -1, x.never(Integer.MIN_VALUE));
        yes("f0", x.field(0, 0, 1));
        due("is alone does not meet", 1, x.is(0));
        due("still", 0, x.never(0));
        yes("day", x.day(5));
        x.check();
        due("met", 1, x.never(0));
        due("next", 3, x.never(1));
        yes("f0", x.without(0, 0));
        x.check();
        due("once met is met", 1, x.never(0));
    }

    // Promise 16
    private static void nodes() {
        CheckRules x = with("!(f1+2-sum f3<1|1>count f4)&all(1=1)|any(1#1)");
        int[][] want = {
            {0, -1, 1, 18}, {1, -1, 2, 14}, {2, -1, 3, -1}, {0, -1, 4, 11}, {5, -1, 5, 10},
            {10, -1, 6, 9}, {9, -1, 7, 8}, {12, 1, -1, -1}, {11, 2, -1, -1}, {13, 3, -1, -1},
            {11, 1, -1, -1}, {6, -1, 12, 13}, {11, 1, -1, -1}, {14, 4, -1, -1}, {3, -1, 15, -1},
            {7, -1, 16, 17}, {11, 1, -1, -1}, {11, 1, -1, -1}, {4, -1, 19, -1}, {8, -1, 20, 21},
            {11, 1, -1, -1}, {11, 1, -1, -1}};
        due("nodes", want.length, x.count(100));
        for (int i = 0; i < want.length; i++) {
            for (int what = 0; what < 4; what++) {
                due("node " + i + " " + what, want[i][what], x.node(0, i, what));
            }
        }
        int[][] none = {{0, 22, 0}, {0, -1, 0}, {0, 0, 4}, {0, 0, -1}, {1, 0, 0}, {-1, 0, 0}};
        for (int[] n : none) {
            due("no node", INDEX, call(() -> x.node(n[0], n[1], n[2])));
        }
    }

    // Promise 17
    private static void printing() {
        prints(" 1 <  2 ", "1<2");
        prints("0012<000", "12<0");
        prints("f07=f19", "f7=f19");
        prints("f00#9999999", "f0#9999999");
        prints("1000000>0100", "1000000>100");
        prints("sum   f3+count f04-1=5", "sum f3+count f4-1=5");
        prints("(1<2|1<3)|1<4", "1<2|1<3|1<4");
        prints("1<2|(1<3|1<4)", "1<2|(1<3|1<4)");
        prints("(1<2&1<3)&1<4", "1<2&1<3&1<4");
        prints("1<2&(1<3&1<4)", "1<2&(1<3&1<4)");
        prints("1<2&(1<3|1<4)", "1<2&(1<3|1<4)");
        prints("(1<3|1<4)&1<2", "(1<3|1<4)&1<2");
        prints("1<2|(1<3&1<4)", "1<2|1<3&1<4");
        prints("(1<3&1<4)|1<2", "1<3&1<4|1<2");
        prints("!(1<2)", "!1<2");
        prints("!(!((1<2)))", "!!1<2");
        prints("!(1<2|1<3)", "!(1<2|1<3)");
        prints("!(1<2&1<3)", "!(1<2&1<3)");
        prints("!1<2&1<3", "!1<2&1<3");
        prints("(!1<2)&(1<3)", "!1<2&1<3");
        prints("!(all((1<2|1<3)))", "!all(1<2|1<3)");
        prints("any ( (f1<2) & (1<3|1=1) ) ", "any(f1<2&(1<3|1=1))");
        CheckRules x = with("1<2");
        for (int none : new int[] {1, -1, 20}) {
            due("print " + none, ARGUMENT, call(() -> x.print(none)));
        }
    }

    // Promise 18
    private static void ats() {
        CheckRules x = with("f1 < 2", "1=1|1=2");
        due("nothing printed", INDEX, call(() -> x.at(0)));
        due("print", 4, x.print(0));
        due("first", 'f', x.at(0));
        due("last", '2', x.at(3));
        due("behind", INDEX, call(() -> x.at(4)));
        due("ahead", INDEX, call(() -> x.at(-1)));
        due("print 1", 7, x.print(1));
        due("last", '2', x.at(6));
        due("print 0", 4, x.print(0));
        due("of the longer one", INDEX, call(() -> x.at(4)));
        due("refused", ARGUMENT, call(() -> x.print(2)));
        due("stays", 'f', x.at(0));
        due("another rule", 2, rule(x, "1=1"));
        due("stays", '<', x.at(2));
    }

    // Promise 19
    private static void counts() {
        CheckRules x = with("1=2", "!1=2");
        yes("sign", x.sign('('));
        yes("soft", x.order(0, 0, false));
        x.check();
        due("signs", 1, x.count(0));
        due("rules", 2, x.count(1));
        due("checks", 1, x.count(2));
        due("broken", 0, x.count(3));
        due("open", 1, x.count(4));
        due("nodes 0", 3, x.count(100));
        due("nodes 1", 4, x.count(101));
        for (int none : new int[] {-1, 6, 99, 102, 120, Integer.MAX_VALUE, Integer.MIN_VALUE}) {
            due("count " + none, -1, x.count(none));
        }
    }
}
