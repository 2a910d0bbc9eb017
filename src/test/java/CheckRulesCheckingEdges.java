import java.util.Collections;

/**
 * The boundary cases of rules that are worked out and checked. Each method is one sentence of the
 * document, named by its promise or by the heading Terms.
 */
public final class CheckRulesCheckingEdges extends Answers {
    private static final int LEAST = Integer.MIN_VALUE;
    private static final int MOST = Integer.MAX_VALUE;
    private static final int[] NO_RULES_OF_3 = {-1, 3, 19, 20, 259, LEAST, MOST};

    public static void main(String[] args) {
        newObject();
        groups();
        rulesToOrder();
        daysOfEditions();
        rulesToEdit();
        daysOfAcceptance();
        fieldsThatAre();
        linesThatAre();
        valuesThatAre();
        withoutWhatIsNone();
        withoutOnEachPlace();
        linesThere();
        sumsOverLines();
        countsOverLines();
        sumsBeyondAMillion();
        noValueInASum();
        comparisons();
        notKnown();
        allWithoutLines();
        allOverEachLine();
        anyOverEachLine();
        workedOutOnItsLine();
        hardAtFirst();
        dayNotBehind();
        othersAreNotBad();
        toldWhenAsked();
        badSinceTheLatest();
        checkByGroups();
        checkWithout();
        badByPlace();
        badOfTwenty();
        wasNever();
        isNow();
        rulesThatAre();
        answerOfNone();
        answerFromTheNextCheck();
        answerGoes();
        answerOverOtherDays();
        neverMet();
        neverOfTwenty();
        countsOfChecks();
        all512Calls();
        tell();
    }

    private static CheckRules twenty(String text) {
        return with(Collections.nCopies(20, text).toArray(new String[0]));
    }

    private static void checked(String what, CheckRules x, int first, int broken, int open) {
        due(what + ": check", first, x.check());
        due(what + ": BROKEN", broken, x.count(3));
        due(what + ": OPEN", open, x.count(4));
    }

    private static void newObject() {
        sentence("Promise 1, no text, no rules, no values");
        CheckRules x = new CheckRules();
        for (int what = 0; what <= 5; what++) {
            due("count " + what, 0, x.count(what));
        }
        due("nodes of no rule", -1, x.count(100));
        due("is", ARGUMENT, call(() -> x.is(0)));
        due("was", ARGUMENT, call(() -> x.was(0)));
        due("print", ARGUMENT, call(() -> x.print(0)));
        due("node", INDEX, call(() -> x.node(0, 0, 0)));
        due("at", INDEX, call(() -> x.at(0)));
        no("order", x.order(0, 0, true));
        no("edition", x.edition(0, 0));
        no("answer", x.answer(0));
        due("bad hard", -1, x.bad(0, true));
        due("bad soft", -1, x.bad(0, false));
        due("never", -1, x.never(0));
        for (int place = 0; place < 200; place++) {
            no("without " + place, x.without(place % 20, place / 20));
        }
        due("the text is no rule", -1, call(x::rule));
        due("check", -1, x.check());
        due("a first rule is 0", 0, rule(x, "1<2"));
        due("NONE", -1, CheckRules.NONE);
    }

    private static void groups() {
        sentence("Promise 4, a rule's GROUP (0 .. 9); false if there is no such group");
        CheckRules x = with("1<1", "1<1");
        for (int group = 0; group <= 9; group++) {
            yes("group " + group, x.order(0, group, true));
        }
        checked("group 9 is behind group 0", x, 1, 2, 0);
        for (int none : new int[] {-1, 10, 256, LEAST, MOST}) {
            no("group " + none, x.order(1, none, false));
        }
        due("what was refused is still HARD", 2, x.count(3));
        due("and first", 1, x.bad(0, true));
        yes("group 0", x.order(0, 0, true));
        due("group 0 again", 0, x.bad(0, true));
        for (int lower = 0; lower < 9; lower++) {
            yes("group " + lower, x.order(1, lower, true));
            yes("group " + (lower + 1), x.order(0, lower + 1, true));
            due("group " + lower + " is ahead of the next", 1, x.bad(0, true));
        }
    }

    private static void rulesToOrder() {
        sentence("Promise 4, false if there is no such rule");
        CheckRules x = with("1<1", "1<1", "1<1");
        due("check", 0, x.check());
        for (int none : NO_RULES_OF_3) {
            no("order of rule " + none, x.order(none, 5, false));
        }
        due("no rule is soft", 0, x.count(4));
        yes("first", x.order(0, 5, false));
        yes("last", x.order(2, 5, false));
        due("two are soft", 2, x.count(4));
        CheckRules y = twenty("1<1");
        due("check", 0, y.check());
        yes("rule 19", y.order(19, 0, false));
        no("rule 20", y.order(20, 0, false));
        due("one is soft", 1, y.count(4));
    }

    private static void daysOfEditions() {
        sentence("Promise 5, an EDITION is from a day (0 .. 100000) on; false if there is no such day");
        CheckRules x = with("1<1");
        yes("edition 0", x.edition(0, 0));
        checked("edition 0 on day 0", x, 0, 1, 0);
        yes("edition 1", x.edition(0, 1));
        checked("edition 1 on day 0", x, -1, 0, 0);
        yes("edition 100000", x.edition(0, 100000));
        yes("day 99999", x.day(99999));
        checked("edition 100000 on day 99999", x, -1, 0, 0);
        yes("day 100000", x.day(100000));
        checked("edition 100000 on day 100000", x, 0, 1, 0);
        for (int none : new int[] {100001, 165536, MOST, -1, LEAST}) {
            no("edition " + none, x.edition(0, none));
            checked("edition 100000 stays", x, 0, 1, 0);
        }
        yes("day 99999", x.day(99999));
        checked("edition 100000 stays, too", x, -1, 0, 0);
    }

    private static void rulesToEdit() {
        sentence("Promise 5, false if there is no such rule");
        CheckRules x = with("1<1", "1<1", "1<1");
        for (int none : NO_RULES_OF_3) {
            no("edition of rule " + none, x.edition(none, 5));
        }
        checked("none was changed", x, 0, 3, 0);
        yes("first", x.edition(0, 5));
        yes("last", x.edition(2, 5));
        checked("two are of a later day", x, 1, 1, 0);
        CheckRules y = twenty("1<1");
        yes("rule 19", y.edition(19, 5));
        no("rule 20", y.edition(20, 5));
        checked("one of twenty is of a later day", y, 0, 19, 0);
    }

    private static void daysOfAcceptance() {
        sentence("Promise 6, the day of acceptance; false if it is not 0 .. 100000");
        CheckRules x = with("1<1", "1<1");
        yes("edition 1", x.edition(1, 1));
        checked("the day is 0 at first", x, 0, 1, 0);
        yes("day 1", x.day(1));
        checked("day 1", x, 0, 2, 0);
        yes("edition 100000", x.edition(1, 100000));
        for (int none : new int[] {-1, 100001, 165536, LEAST, MOST}) {
            no("day " + none, x.day(none));
            checked("day 1 stays", x, 0, 1, 0);
            due("rule 0 is worked out", 0, x.bad(0, true));
        }
        yes("day 100000", x.day(100000));
        checked("day 100000", x, 0, 2, 0);
        no("day -1", x.day(-1));
        no("day 100001", x.day(100001));
        checked("day 100000 stays", x, 0, 2, 0);
        yes("a day may be told that is earlier", x.day(0));
        checked("day 0", x, 0, 1, 0);
    }

    private static void fieldsThatAre() {
        sentence("Promise 7, FIELDS 0 .. 19");
        CheckRules x = with("f0=7", "f19=8", "sum f0=0&sum f19=0", "f18=9");
        for (int none : new int[] {-1, 20, 256, LEAST, MOST}) {
            no("field " + none + " on the head", x.field(none, 0, 7));
            no("field " + none + " on line 1", x.field(none, 1, 7));
            no("field " + none + " on line 9", x.field(none, 9, 7));
        }
        due("no line came", 0, x.count(5));
        due("no value of field 0", 2, x.is(0));
        due("no value of field 19", 2, x.is(1));
        due("none on a line", 1, x.is(2));
        yes("field 0", x.field(0, 0, 7));
        yes("field 19", x.field(19, 0, 8));
        due("field 0", 1, x.is(0));
        due("field 19", 1, x.is(1));
        due("field 18 has none", 2, x.is(3));
    }

    private static void linesThatAre() {
        sentence("Promise 7, LINES 0 (the head) to 9");
        CheckRules x = with("f3=7", "sum f3=8", "sum f3=17", "count f3=0");
        for (int none : new int[] {-1, 10, 256, LEAST, MOST}) {
            no("line " + none, x.field(3, none, 7));
            no("line " + none, x.field(0, none, 7));
            no("line " + none, x.field(19, none, 7));
        }
        due("no line came", 0, x.count(5));
        due("none on the head", 2, x.is(0));
        due("none on a line", 1, x.is(3));
        yes("line 0", x.field(3, 0, 7));
        due("the head", 1, x.is(0));
        yes("line 9", x.field(3, 9, 8));
        due("line 9", 1, x.is(1));
        yes("line 1", x.field(3, 1, 9));
        due("lines 1 and 9", 1, x.is(2));
    }

    private static void valuesThatAre() {
        sentence("Promise 7, values (-1000000 .. 1000000)");
        CheckRules x = with("f3=1000000", "f3=0-1000000", "f3=5", "f3=0");
        for (int none : new int[] {1000001, -1000001, 16777216, LEAST, LEAST + 1, MOST}) {
            no("value " + none, x.field(3, 0, none));
            no("value " + none, x.field(3, 4, none));
        }
        due("no value came", 2, x.is(2));
        due("no line came", 0, x.count(5));
        yes("value", x.field(3, 0, 5));
        for (int none : new int[] {1000001, -1000001, LEAST, MOST}) {
            no("value " + none, x.field(3, 0, none));
        }
        due("the value stays", 1, x.is(2));
        yes("largest", x.field(3, 0, 1000000));
        due("largest", 1, x.is(0));
        yes("smallest", x.field(3, 0, -1000000));
        due("smallest", 1, x.is(1));
        yes("0 is a value", x.field(3, 0, 0));
        due("0", 1, x.is(3));
        yes("-1 is a value, NONE or not", x.field(3, 0, -1));
        due("-1 is not 0", 0, x.is(3));
        yes("-1 goes", x.without(3, 0));
    }

    private static void withoutWhatIsNone() {
        sentence("Promise 8, false if it had none, or there is none such");
        CheckRules x = with("f0=1", "f19=1");
        no("had none", x.without(0, 0));
        yes("value", x.field(0, 0, 1));
        yes("value", x.field(19, 9, 1));
        for (int none : new int[] {-1, 20, 256, LEAST, MOST}) {
            for (int line : new int[] {0, 1, 8, 9}) {
                no("field " + none + " on line " + line, x.without(none, line));
            }
        }
        for (int none : new int[] {-1, 10, 256, LEAST, MOST}) {
            for (int field : new int[] {0, 1, 18, 19}) {
                no("field " + field + " on line " + none, x.without(field, none));
            }
        }
        no("the field beside it", x.without(1, 0));
        no("the line beside it", x.without(0, 1));
        due("the value stays", 1, x.is(0));
        due("the line stays", 512, x.count(5));
        yes("it goes", x.without(0, 0));
        no("it is gone", x.without(0, 0));
        due("not known", 2, x.is(0));
        yes("the last one goes", x.without(19, 9));
        no("it is gone", x.without(19, 9));
        due("no line is there", 0, x.count(5));
        yes("it may come again", x.field(0, 0, 1));
        due("known again", 1, x.is(0));
    }

    private static void withoutOnEachPlace() {
        sentence("Promise 8, a field has no value on a line any more: on each place, and on no other");
        for (int line = 0; line <= 9; line++) {
            CheckRules x = new CheckRules();
            for (int field = 0; field <= 19; field++) {
                yes("value", x.field(field, line, field - 10));
            }
            for (int field = 0; field <= 19; field++) {
                due("the line is there", line == 0 ? 0 : 1 << line, x.count(5));
                yes("goes", x.without(field, line));
                no("gone", x.without(field, line));
            }
            due("the line is empty", 0, x.count(5));
        }
    }

    private static void linesThere() {
        sentence("Terms, a LINE 1 .. 9 IS THERE if a field has a value on it; Promise 19, what 5: as bits 1 to 9");
        CheckRules x = new CheckRules();
        due("none", 0, x.count(5));
        yes("head", x.field(0, 0, 5));
        yes("head", x.field(19, 0, 5));
        due("the head is none of them", 0, x.count(5));
        int bits = 0;
        for (int line = 1; line <= 9; line++) {
            yes("value 0 is one", x.field(line % 2 == 0 ? 0 : 19, line, 0));
            bits |= 1 << line;
            due("lines up to " + line, bits, x.count(5));
        }
        due("all", 1022, x.count(5));
        yes("a second field", x.field(7, 1, 1));
        yes("the first goes", x.without(19, 1));
        due("line 1 is there by the other", 1022, x.count(5));
        yes("the other goes", x.without(7, 1));
        due("line 1 is not there", 1020, x.count(5));
        yes("line 9", x.without(19, 9));
        due("line 9 is not there", 508, x.count(5));
        no("a refused value", x.field(7, 9, 1000001));
        due("line 9 is not there", 508, x.count(5));
    }

    private static void sumsOverLines() {
        sentence("Terms, SUM OF: the sum of its values on lines 1 .. 9 (0 without)");
        CheckRules x = with("sum f0=0", "sum f0=1", "sum f0=512", "sum f0=1023-1", "sum f0=0-1000000");
        due("without lines", 1, x.is(0));
        yes("head", x.field(0, 0, 1));
        due("the head is none of them", 1, x.is(0));
        yes("another field", x.field(1, 1, 1));
        due("a line that is there without it", 1, x.is(0));
        yes("line 1", x.field(0, 1, 1));
        due("line 1", 1, x.is(1));
        yes("line 1", x.without(0, 1));
        yes("line 9", x.field(0, 9, 512));
        due("line 9", 1, x.is(2));
        for (int line = 1; line <= 9; line++) {
            yes("line", x.field(0, line, 1 << line));
        }
        due("each line once", 1, x.is(3));
        for (int line = 1; line <= 8; line++) {
            yes("line", x.without(0, line));
        }
        yes("below 0", x.field(0, 9, -1000000));
        due("below 0", 1, x.is(4));
    }

    private static void countsOverLines() {
        sentence("Terms, COUNT OF: how many it has on lines 1 .. 9");
        CheckRules x = with("count f0=0", "count f0=1", "count f0=9", "count f19=9");
        due("without lines", 1, x.is(0));
        yes("head", x.field(0, 0, 1));
        due("the head is none of them", 1, x.is(0));
        yes("another field", x.field(1, 1, 1));
        due("a line that is there without it", 1, x.is(0));
        yes("line 1 has 0", x.field(0, 1, 0));
        due("line 1", 1, x.is(1));
        yes("line 1 twice", x.field(0, 1, -5));
        due("line 1 counts once", 1, x.is(1));
        yes("line 1", x.without(0, 1));
        yes("line 9", x.field(0, 9, 7));
        due("line 9", 1, x.is(1));
        for (int line = 1; line <= 9; line++) {
            due("not yet 9", 0, x.is(3));
            yes("line", x.field(0, line, 0));
            yes("line", x.field(19, line, -1));
        }
        due("all 9", 1, x.is(2));
        due("all 9 of field 19", 1, x.is(3));
    }

    private static void sumsBeyondAMillion() {
        sentence("Terms, sums go beyond a million as they are");
        CheckRules x = with("sum f0=9000000", "sum f0+sum f0-9000000=sum f0", "sum f1=0-9000000",
                "f0+1=1000001", "f1-1=0-1000001", "f0+f0#f0");
        for (int line = 0; line <= 9; line++) {
            yes("largest", x.field(0, line, 1000000));
            yes("smallest", x.field(1, line, -1000000));
        }
        for (int i = 0; i < 6; i++) {
            due("rule " + i, 1, x.is(i));
        }
        String most = many("9999999+", 18) + "9999999";
        due("the largest sum of numbers", 1, isOf(most + ">9999999"));
        due("the smallest", 1, isOf("0-" + many("9999999-", 17) + "9999999<0"));
        due("it is exact", 1, isOf(many("9999999+", 8) + "9999999-9999999-9999999=9999999"
                + many("+9999999", 6)));
    }

    private static void noValueInASum() {
        sentence("Terms, PLUS and MINUS have none if one of both has none");
        CheckRules x = with("f0+f1=3", "f0-f1=3", "f0+1-1=f0", "1+f0+1=2", "f0-f0=0");
        due("both have none", 2, x.is(0));
        due("both have none", 2, x.is(1));
        due("the same has none", 2, x.is(4));
        yes("left alone", x.field(0, 0, 3));
        due("plus", 2, x.is(0));
        due("minus", 2, x.is(1));
        due("a chain is known", 1, x.is(2));
        yes("both", x.field(1, 0, 0));
        due("plus", 1, x.is(0));
        due("minus", 1, x.is(1));
        yes("right alone", x.without(0, 0));
        due("plus", 2, x.is(0));
        due("minus", 2, x.is(1));
        due("a chain is not known", 2, x.is(2));
        due("the middle one", 2, x.is(3));
    }

    private static void comparisons() {
        sentence("Terms, a comparison is 1 or 0");
        String signs = "<>=#";
        CheckRules x = with("f0<5", "f0>5", "f0=5", "f0#5");
        int[][] want = {{1, 0, 0, 1}, {0, 0, 1, 0}, {0, 1, 0, 1}};
        for (int value = 4; value <= 6; value++) {
            yes("value", x.field(0, 0, value));
            for (int i = 0; i < 4; i++) {
                due(value + " " + signs.charAt(i) + " 5", want[value - 4][i], x.is(i));
            }
        }
        due("about 0", 1, isOf("0-1<0&0<1&0=0&!0#0&0-1#0"));
    }

    private static void notKnown() {
        sentence("Terms, a comparison is NOT KNOWN (2) if one of both has no value");
        for (String sign : new String[] {"<", ">", "=", "#"}) {
            due("left has none", 2, isOf("f0" + sign + "1"));
            due("right has none", 2, isOf("1" + sign + "f0"));
            due("both have none", 2, isOf("f0" + sign + "f0"));
            due("turned", 2, isOf("!f0" + sign + "1"));
        }
        due("a sum always has one", 1, isOf("sum f0=0"));
        due("a count always has one", 1, isOf("count f0=0"));
    }

    private static void allWithoutLines() {
        sentence("Terms, ALL is 1 without any line that is there; ANY 0");
        CheckRules x = with("all(1=2)", "any(1=1)", "all(f0=1)", "any(f0=1)", "all(any(1=1))", "any(all(1=2))");
        int[] empty = {1, 0, 1, 0, 1, 0};
        for (int i = 0; i < 6; i++) {
            due("without lines: rule " + i, empty[i], x.is(i));
        }
        yes("head", x.field(0, 0, 1));
        for (int i = 0; i < 6; i++) {
            due("with the head alone: rule " + i, empty[i], x.is(i));
        }
        yes("line 5", x.field(9, 5, 1));
        int[] one = {0, 1, 2, 2, 1, 0};
        for (int i = 0; i < 6; i++) {
            due("with a line: rule " + i, one[i], x.is(i));
        }
        yes("line 5 goes", x.without(9, 5));
        for (int i = 0; i < 6; i++) {
            due("without lines again: rule " + i, empty[i], x.is(i));
        }
    }

    private static void allOverEachLine() {
        sentence("Terms, ALL is the AND over the lines 1 .. 9 that are there");
        overEachLine("all(f0=1)", 1, 0);
    }

    private static void anyOverEachLine() {
        sentence("Terms, ANY is the OR over the lines 1 .. 9 that are there");
        overEachLine("any(f0=1)", 0, 1);
    }

    /** The answer that all lines are to have for it, and the one that is enough on one line. */
    private static void overEachLine(String text, int common, int enough) {
        CheckRules x = with(text);
        for (int line = 1; line <= 9; line++) {
            yes("line " + line, x.field(0, line, common));
            due("lines up to " + line, common, x.is(0));
        }
        yes("the head counts not", x.field(0, 0, enough));
        due("all 9", common, x.is(0));
        for (int line = 1; line <= 9; line++) {
            yes("another", x.field(0, line, enough));
            due("another on line " + line + " alone", enough, x.is(0));
            yes("there by another field", x.field(1, line, 1));
            yes("none on it", x.without(0, line));
            due("2 on line " + line + " alone", 2, x.is(0));
            yes("not there", x.without(1, line));
            due("line " + line + " is not there", common, x.is(0));
            yes("as it was", x.field(0, line, common));
        }
        yes("enough on line 1", x.field(0, 1, enough));
        yes("line 9 by another", x.field(1, 9, 1));
        yes("2 on line 9", x.without(0, 9));
        due("line 1 is enough, 2 or not", enough, x.is(0));
    }

    private static void workedOutOnItsLine() {
        sentence("Terms, WORKED OUT on a line (0 at first)");
        CheckRules x = with("f0=1", "all(f0=2)", "f0=1&all(f0=2)&f0=1", "all(f0=2&any(f0=2)&f0=2)",
                "all(f0=f0&any(f0=3))", "any(sum f0=4&count f0=2&f0=2)");
        yes("head", x.field(0, 0, 1));
        yes("line 4", x.field(0, 4, 2));
        yes("line 5", x.field(0, 5, 2));
        int[] want = {1, 1, 1, 1, 0, 1};
        for (int i = 0; i < want.length; i++) {
            due("rule " + i, want[i], x.is(i));
        }
        CheckRules y = with(many("all(any(", 5) + "f0=1" + many("))", 5));
        for (int line = 1; line <= 9; line++) {
            yes("line", y.field(0, line, line));
        }
        due("ten deep on nine lines", 1, y.is(0));
        yes("line 1", y.field(0, 1, 2));
        due("ten deep on nine lines", 0, y.is(0));
    }

    private static void hardAtFirst() {
        sentence("Terms, RULES are HARD at first, in GROUP 0, of an EDITION from day 0 on");
        CheckRules x = with("1=2", "1=2", "1=2");
        yes("a group more than 0", x.order(0, 1, true));
        checked("at first", x, 1, 3, 0);
        due("in group 0", 2, x.bad(1, true));
        due("behind group 0", 0, x.bad(2, true));
        due("none is OPEN", -1, x.bad(0, false));
        no("a HARD one takes no answer", x.answer(1));
        due("a later rule", 3, rule(x, "1=2"));
        checked("a later rule at first", x, 1, 4, 0);
        due("it is in group 0", 3, x.bad(2, true));
    }

    private static void dayNotBehind() {
        sentence("Terms, TO CHECK: rules whose edition's day is not behind it");
        CheckRules x = with("1=2");
        yes("edition 50", x.edition(0, 50));
        int[] days = {0, 49, 50, 51, 100000, 50, 49};
        for (int day : days) {
            yes("day", x.day(day));
            checked("day " + day, x, day < 50 ? -1 : 0, day < 50 ? 0 : 1, 0);
        }
        yes("edition 49", x.edition(0, 49));
        due("an edition counts from the next check on", 0, x.count(3));
        checked("edition 49 on day 49", x, 0, 1, 0);
    }

    private static void othersAreNotBad() {
        sentence("Terms, all of them are worked out; the others are not BAD");
        CheckRules x = with("f0=1", "f0=1", "1=1");
        yes("soft", x.order(1, 0, false));
        checked("day 0", x, 0, 1, 1);
        yes("later", x.edition(0, 1));
        yes("later", x.edition(1, 1));
        yes("f0", x.field(0, 0, 2));
        checked("both are of a later day", x, -1, 0, 0);
        due("not worked out again", 2, x.was(0));
        due("not worked out again", 2, x.was(1));
        due("it is 0 now", 0, x.is(0));
        yes("day 1", x.day(1));
        checked("day 1", x, 0, 1, 1);
        due("worked out", 0, x.was(0));
        yes("soft", x.order(2, 0, false));
        checked("one that is 1 is not BAD, HARD or SOFT", x, 0, 1, 1);
    }

    private static void toldWhenAsked() {
        sentence("Terms, BROKEN if it is HARD, else OPEN (by what it is told to be when that is asked; groups likewise)");
        CheckRules x = with("1=2", "1=2");
        checked("both HARD", x, 0, 2, 0);
        yes("soft", x.order(0, 0, false));
        due("BROKEN", 1, x.count(3));
        due("OPEN", 1, x.count(4));
        due("the first BROKEN", 1, x.bad(0, true));
        due("the first OPEN", 0, x.bad(0, false));
        yes("soft, too", x.order(1, 0, false));
        due("none is BROKEN", -1, x.bad(0, true));
        due("the second OPEN", 1, x.bad(1, false));
        yes("its group", x.order(0, 1, false));
        due("groups likewise", 1, x.bad(0, false));
        yes("hard", x.order(0, 9, true));
        due("BROKEN again", 0, x.bad(0, true));
        due("one OPEN is left", 1, x.count(4));
    }

    private static void badSinceTheLatest() {
        sentence("Promise 10, since the latest check");
        CheckRules x = with("f0=1", "f0=2");
        due("before a check", -1, x.bad(0, true));
        due("before a check", 0, x.count(3));
        checked("not known is BAD", x, 0, 2, 0);
        yes("f0", x.field(0, 0, 1));
        due("a value changes nothing", 2, x.count(3));
        due("is changes nothing", 1, x.is(0));
        due("still", 0, x.bad(0, true));
        yes("later", x.edition(1, 9));
        due("an edition changes nothing", 1, x.bad(1, true));
        due("a later rule", 2, rule(x, "1=2"));
        due("is not BAD before a check", 2, x.count(3));
        checked("the next check", x, 2, 1, 0);
    }

    private static void checkByGroups() {
        sentence("Promise 9, the first rule, by groups, then numbers, that is BROKEN");
        CheckRules x = twenty("1=2");
        due("the first of all", 0, x.check());
        for (int i = 0; i < 20; i++) {
            yes("group 9", x.order(i, 9, true));
        }
        due("the first of group 9", 0, x.check());
        yes("group 8", x.order(19, 8, true));
        due("the last rule is the first by groups", 19, x.check());
        yes("group 0", x.order(10, 0, true));
        due("group 0 is first", 10, x.check());
        yes("soft", x.order(10, 0, false));
        due("a SOFT one is not BROKEN", 19, x.check());
    }

    private static void checkWithout() {
        sentence("Promise 9, NONE without");
        CheckRules x = new CheckRules();
        checked("without rules", x, -1, 0, 0);
        due("rule", 0, rule(x, "1=1"));
        checked("one that is 1", x, -1, 0, 0);
        due("rule", 1, rule(x, "f0=1"));
        checked("one that is 2", x, 1, 1, 0);
        yes("f0", x.field(0, 0, 0));
        checked("one that is 0", x, 1, 1, 0);
        yes("soft", x.order(1, 0, false));
        checked("an OPEN one alone", x, -1, 0, 1);
        yes("answer", x.answer(1));
        checked("an answered one alone", x, -1, 0, 0);
        yes("later", x.edition(1, 1));
        yes("hard", x.order(1, 0, true));
        checked("one of a later day alone", x, -1, 0, 0);
    }

    private static void badByPlace() {
        sentence("Promise 10, the i-th rule; NONE without");
        CheckRules x = with("1=2", "1=2", "1=2", "1=1", "1=2");
        yes("group", x.order(0, 2, true));
        yes("group", x.order(1, 1, true));
        yes("soft", x.order(2, 1, false));
        yes("soft", x.order(4, 0, false));
        due("check", 1, x.check());
        int[] hard = {1, 0, -1, -1};
        int[] soft = {4, 2, -1, -1};
        for (int i = 0; i < 4; i++) {
            due("BROKEN " + i, hard[i], x.bad(i, true));
            due("OPEN " + i, soft[i], x.bad(i, false));
        }
        for (int none : new int[] {-1, -2, 20, 256, LEAST, LEAST + 1, MOST}) {
            due("BROKEN " + none, -1, x.bad(none, true));
            due("OPEN " + none, -1, x.bad(none, false));
        }
    }

    private static void badOfTwenty() {
        sentence("Promise 10, the i-th rule of 20");
        CheckRules x = twenty("1=2");
        due("check", 0, x.check());
        due("BROKEN", 20, x.count(3));
        for (int i = 0; i <= 20; i++) {
            due("BROKEN " + i, i == 20 ? -1 : i, x.bad(i, true));
            due("OPEN " + i, -1, x.bad(i, false));
        }
        for (int i = 0; i < 20; i++) {
            yes("group", x.order(i, 9 - i / 2, false));
        }
        due("OPEN", 20, x.count(4));
        for (int i = 0; i <= 20; i++) {
            due("OPEN " + i, i == 20 ? -1 : 18 - i / 2 * 2 + i % 2, x.bad(i, false));
        }
    }

    private static void wasNever() {
        sentence("Promise 11, what a rule was in the latest check in which it was worked out; NONE if never");
        CheckRules x = with("f0=1", "f0=1");
        due("without a check", -1, x.was(0));
        yes("later", x.edition(1, 5));
        due("is", 2, x.is(0));
        due("is is no check", -1, x.was(0));
        due("check", 0, x.check());
        due("2", 2, x.was(0));
        due("of a later day: never", -1, x.was(1));
        due("a rule behind the check", 2, rule(x, "1=1"));
        due("never", -1, x.was(2));
        yes("f0", x.field(0, 0, 0));
        due("no check since", 2, x.was(0));
        due("check", 0, x.check());
        due("0", 0, x.was(0));
        yes("f0", x.field(0, 0, 1));
        due("check", -1, x.check());
        due("1", 1, x.was(0));
        yes("later", x.edition(0, 5));
        yes("f0", x.without(0, 0));
        due("check", -1, x.check());
        due("the latest in which it was worked out", 1, x.was(0));
        yes("day 5", x.day(5));
        due("check", 0, x.check());
        due("on its day", 2, x.was(1));
    }

    private static void isNow() {
        sentence("Promise 12, what a rule is now");
        CheckRules x = with("f0=1");
        yes("later", x.edition(0, 5));
        due("without a check, and of a later day", 2, x.is(0));
        yes("f0", x.field(0, 0, 0));
        due("0", 0, x.is(0));
        yes("f0", x.field(0, 0, 1));
        due("1", 1, x.is(0));
        yes("f0", x.without(0, 0));
        due("2", 2, x.is(0));
        due("is is not told by checks", -1, x.never(0));
        due("is is no check", 0, x.count(2));
    }

    private static void rulesThatAre() {
        sentence("Promises 11 and 12, IllegalArgumentException if there is no such rule");
        CheckRules x = with("1=1", "1=1", "1=2");
        due("check", 2, x.check());
        for (int none : NO_RULES_OF_3) {
            due("was " + none, ARGUMENT, call(() -> x.was(none)));
            due("is " + none, ARGUMENT, call(() -> x.is(none)));
        }
        due("was of the last", 0, x.was(2));
        due("is of the last", 0, x.is(2));
        CheckRules y = twenty("1=2");
        due("check", 0, y.check());
        due("was 19", 0, y.was(19));
        due("is 19", 0, y.is(19));
        due("was 20", ARGUMENT, call(() -> y.was(20)));
        due("is 20", ARGUMENT, call(() -> y.is(20)));
    }

    private static void answerOfNone() {
        sentence("Promise 13, false if there is none such, or it is HARD, or was 1");
        CheckRules x = with("f0=1", "1=1", "f0=1");
        for (int i = 0; i < 3; i++) {
            yes("soft", x.order(i, 0, false));
            no("not worked out yet", x.answer(i));
        }
        yes("later", x.edition(2, 5));
        checked("one is OPEN", x, -1, 0, 1);
        for (int none : NO_RULES_OF_3) {
            no("rule " + none, x.answer(none));
        }
        no("was 1", x.answer(1));
        no("of a later day, never worked out", x.answer(2));
        yes("hard", x.order(0, 0, true));
        no("HARD", x.answer(0));
        checked("no answer came of these", x, 0, 1, 0);
        yes("soft", x.order(0, 0, false));
        checked("nor later", x, -1, 0, 1);
        yes("f0", x.field(0, 0, 1));
        yes("was 2, is 1", x.answer(0));
        yes("f0", x.field(0, 0, 0));
        checked("0 is another than 2", x, -1, 0, 1);
        yes("was 0", x.answer(0));
        yes("once more", x.answer(0));
        checked("answered", x, -1, 0, 0);
        yes("answered already", x.answer(0));
        yes("f0", x.field(0, 0, 1));
        checked("1", x, -1, 0, 0);
        yes("f0", x.field(0, 0, 0));
        no("was 1, is 0", x.answer(0));
        yes("later", x.edition(0, 5));
        checked("not to check", x, -1, 0, 0);
        no("was 1 when it was worked out", x.answer(0));
        CheckRules y = twenty("1=2");
        due("check", 0, y.check());
        yes("soft", y.order(19, 0, false));
        yes("rule 19", y.answer(19));
        no("rule 20", y.answer(20));
    }

    private static void answerFromTheNextCheck() {
        sentence("Terms, an ANSWER counts from the next check on: what is BAD since the latest one stays so");
        CheckRules x = with("1=2", "1=2");
        yes("soft", x.order(0, 0, false));
        yes("soft", x.order(1, 0, false));
        checked("both OPEN", x, -1, 0, 2);
        yes("answer", x.answer(0));
        due("stays OPEN", 2, x.count(4));
        due("stays OPEN", 0, x.bad(0, false));
        yes("hard", x.order(0, 0, true));
        due("told to be HARD it is BROKEN", 0, x.bad(0, true));
        yes("soft", x.order(0, 0, false));
        checked("the next check", x, -1, 0, 1);
        due("the other is OPEN", 1, x.bad(0, false));
        due("it was worked out all the same", 0, x.was(0));
        checked("and the one behind it", x, -1, 0, 1);
        yes("hard", x.order(0, 0, true));
        checked("has an ANSWER, so it is not BAD", x, -1, 0, 1);
        yes("soft", x.order(0, 5, false));
        checked("the ANSWER is with it all the time", x, -1, 0, 1);
    }

    private static void answerGoes() {
        sentence("Terms, an ANSWER goes when a check works the rule out and it is another (0, 1, 2) than in the check ahead");
        int[][] turns = {{0, 2}, {0, 1}, {2, 0}, {2, 1}};
        for (int[] turn : turns) {
            CheckRules x = with("f0=1");
            yes("soft", x.order(0, 0, false));
            put(x, turn[0]);
            checked("OPEN", x, -1, 0, 1);
            yes("answer", x.answer(0));
            checked("answered", x, -1, 0, 0);
            put(x, turn[1]);
            checked("another", x, -1, 0, turn[1] == 1 ? 0 : 1);
            put(x, turn[0]);
            checked("it is gone for good", x, -1, 0, 1);
            checked("it does not come back", x, -1, 0, 1);
        }
        CheckRules y = with("f0=1");
        yes("soft", y.order(0, 0, false));
        put(y, 2);
        checked("OPEN", y, -1, 0, 1);
        yes("answer", y.answer(0));
        put(y, 1);
        put(y, 2);
        checked("another between two checks is not seen", y, -1, 0, 0);
        for (int i = 0; i < 5; i++) {
            checked("it stays as long as it is the same", y, -1, 0, 0);
        }
    }

    /** Makes the rule f0=1 be 0, 1 or 2. */
    private static void put(CheckRules x, int answer) {
        if (answer == 2) {
            x.without(0, 0);
        } else {
            yes("f0", x.field(0, 0, answer));
        }
    }

    private static void answerOverOtherDays() {
        sentence("Terms, an ANSWER goes when a check works the rule out: not when a check leaves it out");
        CheckRules x = with("f0=1");
        yes("soft", x.order(0, 0, false));
        yes("edition", x.edition(0, 5));
        yes("day", x.day(5));
        checked("OPEN", x, -1, 0, 1);
        yes("answer", x.answer(0));
        yes("day", x.day(4));
        put(x, 1);
        checked("left out", x, -1, 0, 0);
        put(x, 2);
        yes("day", x.day(5));
        checked("as it was", x, -1, 0, 0);
        yes("day", x.day(4));
        checked("left out", x, -1, 0, 0);
        yes("an answer to one that is left out", x.answer(0));
        yes("a later edition", x.edition(0, 6));
        yes("day", x.day(5));
        checked("left out by its edition", x, -1, 0, 0);
        yes("the edition again", x.edition(0, 5));
        checked("as it was", x, -1, 0, 0);
        put(x, 0);
        checked("another", x, -1, 0, 1);
    }

    private static void neverMet() {
        sentence("Promise 15, the i-th rule, by number, that was worked out by a check, but never MET; NONE without");
        CheckRules x = with("f0=1", "1=1", "f0=1", "1=2");
        due("before a check", -1, x.never(0));
        yes("a group counts not", x.order(0, 9, true));
        yes("nor SOFT", x.order(3, 0, false));
        yes("later", x.edition(2, 5));
        due("check", 0, x.check());
        due("first", 0, x.never(0));
        due("second", 3, x.never(1));
        for (int none : new int[] {2, 3, 20, 256, -1, -2, LEAST, LEAST + 1, MOST}) {
            due("never " + none, -1, x.never(none));
        }
        yes("f0", x.field(0, 0, 1));
        due("is", 1, x.is(0));
        due("MET by a check alone", 0, x.never(0));
        yes("day 5", x.day(5));
        yes("f0", x.field(0, 0, 0));
        due("check", 2, x.check());
        due("rule 2 is worked out now", 2, x.never(1));
        yes("f0", x.field(0, 0, 1));
        due("check", -1, x.check());
        due("0 and 2 are MET", 3, x.never(0));
        yes("f0", x.without(0, 0));
        due("check", 2, x.check());
        due("MET stays", 3, x.never(0));
        due("no more", -1, x.never(1));
        yes("answer", x.answer(3));
        due("check", 2, x.check());
        due("an answer is not MET", 3, x.never(0));
        yes("later", x.edition(3, 6));
        due("check", 2, x.check());
        due("left out by a check it stays one", 3, x.never(0));
    }

    private static void neverOfTwenty() {
        sentence("Promise 15, the i-th rule of 20");
        CheckRules x = twenty("f0=1");
        due("check", 0, x.check());
        for (int i = 0; i <= 20; i++) {
            due("never " + i, i == 20 ? -1 : i, x.never(i));
        }
        yes("f0", x.field(0, 0, 1));
        due("check", -1, x.check());
        due("all are MET", -1, x.never(0));
    }

    private static void countsOfChecks() {
        sentence("Promise 19, what 2: checks so far, 3: rules BROKEN, 4: rules OPEN");
        CheckRules x = new CheckRules();
        due("no checks", 0, x.count(2));
        for (int i = 1; i <= 3; i++) {
            due("check without rules", -1, x.check());
            due("counts", i, x.count(2));
        }
        for (int i = 0; i < 20; i++) {
            due("rule", i, rule(x, "1=2"));
            yes("every second is soft", x.order(i, 0, i % 2 == 0));
        }
        due("none BROKEN yet", 0, x.count(3));
        due("none OPEN yet", 0, x.count(4));
        checked("ten and ten", x, 0, 10, 10);
        due("4 checks", 4, x.count(2));
    }

    private static void all512Calls() {
        sentence("What it is, an object is used for at most 512 calls");
        CheckRules x = new CheckRules();
        for (int i = 0; i < 511; i++) {
            due("check " + i, -1, x.check());
        }
        due("the 512th call", 511, x.count(2));
    }
}
