import java.util.function.Function;

/**
 * What is refused changes nothing, nor does a call that throws or only asks: two objects live
 * through the same calls, one of them takes the refused call besides, and all that they answer
 * from there on is the same.
 */
public final class CheckRulesRefusedEdges extends Answers {
    private static final int LEAST = Integer.MIN_VALUE;
    private static final int MOST = Integer.MAX_VALUE;
    private static final int RULES = 5;
    private static final int[] NO_RULES = {-1, RULES, 20, LEAST, MOST};
    private static final int[] NO_FIELDS = {-1, 20, LEAST, MOST};
    private static final int[] NO_LINES = {-1, 10, LEAST, MOST};
    private static final int[] NO_DAYS = {-1, 100001, LEAST, MOST};

    /** A call as its answer. */
    private interface Call extends Function<CheckRules, Integer> {
    }

    public static void main(String[] args) {
        theStoriesTell();
        signs();
        rulesBeyond20();
        orders();
        editions();
        days();
        fields();
        withouts();
        answers();
        throwing();
        asking();
        tell();
    }

    /** Rules of all states: BROKEN, OPEN, answered, MET, left out; values; a text; something printed. */
    private static CheckRules lived() {
        CheckRules x = with("f0=1", "all(f1>0)", "sum f1=3|f2=1", "f4=1", "count f1=2&f19=0");
        yes("soft", x.order(1, 2, false));
        yes("soft", x.order(2, 1, false));
        yes("since today", x.edition(0, 5));
        yes("since before", x.edition(2, 3));
        yes("later", x.edition(4, 7));
        yes("day", x.day(5));
        yes("line 1", x.field(1, 1, 2));
        yes("line 3", x.field(1, 3, -1));
        yes("line 9", x.field(19, 9, 0));
        yes("MET", x.field(4, 0, 1));
        due("check", 0, x.check());
        yes("an answer that counts already", x.answer(1));
        due("check", 0, x.check());
        yes("an answer that counts from the next check on", x.answer(2));
        due("print", 9, x.print(1));
        type(x, "f3 = 4");
        return x;
    }

    /** All that can be asked, then what the text, the answers, the groups and the days come to. */
    private static String story(CheckRules x) {
        StringBuilder b = new StringBuilder();
        asked(x, b);
        for (int i = 0; i < 9; i++) {
            b.append((char) x.at(i));
        }
        b.append(call(() -> x.at(9)));
        b.append(" text ").append(call(x::rule));
        b.append(" check ").append(x.check());
        verdicts(x, b);
        b.append(allTurned(x));
        for (int day : new int[] {0, 3, 4, 5, 7, 100000}) {
            yes("day", x.day(day));
            b.append(" check ").append(x.check());
            verdicts(x, b);
        }
        int rules = x.count(1);
        for (int rule = 0; rule < rules; rule++) {
            b.append(' ').append(printed(x, rule));
        }
        return b.toString();
    }

    /** Each rule comes to be another than it was and not 1, so that no answer hides it. */
    private static String allTurned(CheckRules x) {
        StringBuilder b = new StringBuilder();
        b.append(x.without(4, 0)).append(x.field(0, 0, 0)).append(x.field(2, 0, 0));
        return b.append(x.without(1, 3)).toString();
    }

    private static void asked(CheckRules x, StringBuilder b) {
        for (int what = 0; what <= 5; what++) {
            b.append(x.count(what)).append(' ');
        }
        for (int field = 0; field <= 19; field++) {
            b.append(x.touch(field)).append(' ');
        }
        for (int rule = 0; rule < RULES; rule++) {
            b.append(x.is(rule)).append(x.count(100 + rule)).append(' ');
        }
        verdicts(x, b);
    }

    private static void verdicts(CheckRules x, StringBuilder b) {
        for (int i = 0; i < RULES; i++) {
            b.append(' ').append(x.was(i)).append(x.bad(i, true)).append(x.bad(i, false)).append(x.never(i));
        }
    }

    private static void same(String what, int want, Call refused) {
        CheckRules x = lived();
        due(what, want, call(() -> refused.apply(x)));
        due("behind " + what, story(lived()), story(x));
    }

    private static void refusedBy(String what, Call refused) {
        same(what, 0, refused);
    }

    private static int number(boolean answer) {
        return answer ? 1 : 0;
    }

    /** Calls that are taken are seen in the story, so it would tell of a refused one that was taken. */
    private static void theStoriesTell() {
        sentence("the story tells what is taken");
        String plain = story(lived());
        Call[] taken = {
            x -> number(x.sign('5')), x -> number(x.day(0)), x -> number(x.day(100000)),
            x -> number(x.field(0, 0, 1)), x -> number(x.field(5, 4, 1)), x -> number(x.without(1, 1)),
            x -> number(x.without(19, 9)), x -> 1 + Math.min(x.check(), 0), x -> 1 + Math.min(x.rule(), 0),
            x -> number(x.order(0, 0, false)), x -> number(x.order(1, 0, false)), x -> number(x.order(2, 2, false)),
            x -> number(x.order(3, 1, true)), x -> number(x.order(4, 1, true)), x -> number(x.order(4, 0, false)),
            x -> number(x.edition(0, 4)), x -> number(x.edition(1, 1)), x -> number(x.edition(2, 5)),
            x -> number(x.edition(3, 100000)), x -> number(x.edition(4, 5))};
        for (int i = 0; i < taken.length; i++) {
            CheckRules x = lived();
            due("call " + i, 1, taken[i].apply(x));
            no("the story behind call " + i + " is the same", plain.equals(story(x)));
        }
    }

    private static void signs() {
        sentence("Promise 2, a refused sign changes nothing");
        for (int c : new int[] {31, 127, 0, -1, 10, 48 + 256, LEAST, MOST}) {
            refusedBy("sign " + c, x -> number(x.sign(c)));
        }
        sentence("Promise 2, a sign behind 200 changes nothing");
        CheckRules x = with("1<2");
        type(x, "1<3" + many(" ", 197));
        no("sign 201", x.sign('4'));
        due("signs", 200, x.count(0));
        due("the text", 1, call(x::rule));
        due("printed as it was told", "1<3", printed(x, 1));
    }

    private static void rulesBeyond20() {
        sentence("Promise 3, IllegalStateException leaves text and rules as they were");
        for (String text : new String[] {"", "1<2", "f5=6", "1<", ")", many("!", 60), many(" ", 200)}) {
            CheckRules x = new CheckRules();
            for (int i = 0; i < 20; i++) {
                due("rule", i, rule(x, i + "<9"));
            }
            due("check", 9, x.check());
            due("print", 4, x.print(19));
            type(x, text);
            for (int i = 0; i < 3; i++) {
                due("rule with '" + text + "'", STATE, call(x::rule));
                due("the text stays", text.length(), x.count(0));
                due("the rules stay", 20, x.count(1));
            }
            yes("a sign more, where there is room", x.sign(' ') || text.length() == 200);
            due("nodes of the last", 3, x.count(119));
            due("the last", 19, x.node(19, 1, 1));
            due("BROKEN", 11, x.count(3));
            due("printed", '<', x.at(2));
            due("touched", 0, x.touch(5));
        }
    }

    private static void orders() {
        sentence("Promise 4, a refused order changes nothing");
        for (int none : NO_RULES) {
            refusedBy("order of rule " + none, x -> number(x.order(none, 0, false)));
            refusedBy("order of rule " + none, x -> number(x.order(none, 9, true)));
        }
        for (int none : new int[] {-1, 10, LEAST, MOST}) {
            for (int rule = 0; rule < RULES; rule++) {
                int to = rule;
                refusedBy("group " + none + " of rule " + rule, x -> number(x.order(to, none, false)));
                refusedBy("group " + none + " of rule " + rule, x -> number(x.order(to, none, true)));
            }
        }
    }

    private static void editions() {
        sentence("Promise 5, a refused edition changes nothing");
        for (int none : NO_RULES) {
            refusedBy("edition of rule " + none, x -> number(x.edition(none, 0)));
            refusedBy("edition of rule " + none, x -> number(x.edition(none, 100000)));
        }
        for (int none : NO_DAYS) {
            for (int rule = 0; rule < RULES; rule++) {
                int to = rule;
                refusedBy("edition " + none + " of rule " + rule, x -> number(x.edition(to, none)));
            }
        }
    }

    private static void days() {
        sentence("Promise 6, a refused day changes nothing");
        for (int none : NO_DAYS) {
            refusedBy("day " + none, x -> number(x.day(none)));
        }
    }

    private static void fields() {
        sentence("Promise 7, a refused value changes nothing");
        for (int none : NO_FIELDS) {
            for (int line : new int[] {0, 1, 9}) {
                refusedBy("field " + none + " on line " + line, x -> number(x.field(none, line, 1)));
            }
        }
        for (int none : NO_LINES) {
            for (int field : new int[] {0, 1, 19}) {
                refusedBy("field " + field + " on line " + none, x -> number(x.field(field, none, 1)));
            }
        }
        for (int none : new int[] {-1000001, 1000001, LEAST, MOST}) {
            refusedBy("value " + none + " where there is none", x -> number(x.field(0, 0, none)));
            refusedBy("value " + none + " on a line that is not there", x -> number(x.field(1, 4, none)));
            refusedBy("value " + none + " where there is one", x -> number(x.field(1, 1, none)));
        }
    }

    private static void withouts() {
        sentence("Promise 8, a refused without changes nothing");
        for (int none : NO_FIELDS) {
            for (int line : new int[] {0, 1, 8, 9}) {
                refusedBy("field " + none + " on line " + line, x -> number(x.without(none, line)));
            }
        }
        for (int none : NO_LINES) {
            for (int field : new int[] {0, 1, 18, 19}) {
                refusedBy("field " + field + " on line " + none, x -> number(x.without(field, none)));
            }
        }
        refusedBy("without a value", x -> number(x.without(0, 0)));
        refusedBy("without a value on a line that is there", x -> number(x.without(0, 1)));
        refusedBy("without a value on a line that is not", x -> number(x.without(1, 2)));
    }

    private static void answers() {
        sentence("Promise 13, a refused answer changes nothing");
        for (int none : NO_RULES) {
            refusedBy("answer of rule " + none, x -> number(x.answer(none)));
        }
        refusedBy("answer of a HARD one that is BROKEN", x -> number(x.answer(0)));
        refusedBy("answer of a HARD one that was 1", x -> number(x.answer(3)));
        refusedBy("answer of one that was never worked out", x -> number(x.answer(4)));
        CheckRules x = with("f0=1");
        yes("soft", x.order(0, 0, false));
        no("not worked out yet", x.answer(0));
        due("check", -1, x.check());
        due("no answer came of it", 0, x.bad(0, false));
        yes("hard", x.order(0, 0, true));
        no("HARD", x.answer(0));
        yes("soft", x.order(0, 0, false));
        due("check", -1, x.check());
        due("no answer came of it", 0, x.bad(0, false));
        yes("f0", x.field(0, 0, 1));
        due("check", -1, x.check());
        no("was 1", x.answer(0));
        yes("f0", x.field(0, 0, 0));
        due("check", -1, x.check());
        due("no answer came of it", 0, x.bad(0, false));
    }

    private static void throwing() {
        for (int none : NO_RULES) {
            sentence("Promise 11, a was that throws changes nothing");
            same("was " + none, ARGUMENT, x -> x.was(none));
            sentence("Promise 12, an is that throws changes nothing");
            same("is " + none, ARGUMENT, x -> x.is(none));
            sentence("Promise 16, a node that throws changes nothing");
            same("node of rule " + none, INDEX, x -> x.node(none, 0, 0));
            same("node " + none + " of rule 0", INDEX, x -> x.node(0, none, 0));
            same("what " + none, INDEX, x -> x.node(0, 0, none));
            sentence("Promise 17, a print that throws changes nothing");
            same("print " + none, ARGUMENT, x -> x.print(none));
        }
        sentence("Promise 14, a touch that throws changes nothing");
        for (int none : NO_FIELDS) {
            same("touch " + none, ARGUMENT, x -> x.touch(none));
        }
        sentence("Promise 18, an at that throws changes nothing");
        for (int none : new int[] {-1, 9, 200, LEAST, MOST}) {
            same("at " + none, INDEX, x -> x.at(none));
        }
    }

    private static void asking() {
        sentence("Promises 10 to 12, 14 to 16, 18 and 19, what is only asked changes nothing");
        for (int none : new int[] {-1, 5, 20, LEAST, MOST}) {
            same("bad " + none, -1, x -> x.bad(none, true));
            same("bad " + none, -1, x -> x.bad(none, false));
            same("never " + none, -1, x -> x.never(none));
        }
        for (int none : new int[] {-1, 6, 99, 105, LEAST, MOST}) {
            same("count " + none, -1, x -> x.count(none));
        }
        same("bad", 0, x -> x.bad(0, true));
        same("was", 0, x -> x.was(1));
        same("is of one of a later day", 2, x -> x.is(4));
        same("is of one that was answered", 0, x -> x.is(1));
        same("touch", 3, x -> x.touch(1));
        same("never", 0, x -> x.never(0));
        same("node", 7, x -> x.node(0, 0, 0));
        same("at", 'a', x -> x.at(0));
        same("count", 6, x -> x.count(0));
    }
}
