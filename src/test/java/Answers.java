import java.util.function.IntSupplier;

/** What tests extend: it takes what is due, and counts the answers that are not as due. */
abstract class Answers {
    /** These stand for the very exceptions; no call of the class answers such a number. */
    static final int STATE = -1001;
    static final int ARGUMENT = -1002;
    static final int INDEX = -1003;

    private static String sentence = "";
    private static int done = 0;
    private static int wrong = 0;

    /** Which sentence of the document the next answers belong to. */
    static void sentence(String words) {
        sentence = words + ": ";
    }

    static void due(String what, int want, int got) {
        done++;
        if (want != got) {
            wrong++;
            System.out.println(sentence + what + ": due " + want + ", answered " + got);
        }
    }

    static void due(String what, String want, String got) {
        done++;
        if (!want.equals(got)) {
            wrong++;
            System.out.println(sentence + what + ": due " + want + ", answered " + got);
        }
    }

    static void yes(String what, boolean got) {
        due(what, 1, got ? 1 : 0);
    }

    static void no(String what, boolean got) {
        due(what, 0, got ? 1 : 0);
    }

    /** The answer, or a number that stands for the very exception. */
    static int call(IntSupplier call) {
        try {
            return call.getAsInt();
        } catch (RuntimeException e) {
            if (e.getClass() == IllegalStateException.class) {
                return STATE;
            }
            if (e.getClass() == IllegalArgumentException.class) {
                return ARGUMENT;
            }
            if (e.getClass() == IndexOutOfBoundsException.class) {
                return INDEX;
            }
            throw e;
        }
    }

    static void type(CheckRules x, String text) {
        for (int i = 0; i < text.length(); i++) {
            yes("sign " + i + " of '" + text + "'", x.sign(text.charAt(i)));
        }
    }

    static int rule(CheckRules x, String text) {
        type(x, text);
        return call(x::rule);
    }

    /** A new object with these rules. */
    static CheckRules with(String... texts) {
        CheckRules x = new CheckRules();
        for (int i = 0; i < texts.length; i++) {
            due("rule '" + texts[i] + "'", i, rule(x, texts[i]));
        }
        return x;
    }

    static void place(String text, int place) {
        due("place in '" + text + "'", -1 - place, rule(new CheckRules(), text));
    }

    static void fine(String text) {
        due("rule '" + text + "'", 0, rule(new CheckRules(), text));
    }

    static int isOf(String text) {
        return with(text).is(0);
    }

    static String printed(CheckRules x, int rule) {
        int length = call(() -> x.print(rule));
        StringBuilder b = new StringBuilder();
        for (int i = 0; i < length; i++) {
            b.append((char) x.at(i));
        }
        due("at behind the end", INDEX, call(() -> x.at(length)));
        return b.toString();
    }

    static void prints(String text, String want) {
        due("print of '" + text + "'", want, printed(with(text), 0));
    }

    static String many(String piece, int times) {
        return piece.repeat(times);
    }

    /** The last call of a test. */
    static void tell() {
        System.out.println(done + " answers looked at, " + wrong + " not as due");
        if (wrong != 0) {
            System.exit(1);
        }
    }
}
