import java.util.NoSuchElementException;

/** What the tests of the promises share: texts onto a tape, answers against those that are due. */
final class Check {
    private static int wrong = 0;
    private static int looked = 0;
    private static String about = "";

    private Check() { }

    interface Call {
        int answer();
    }

    static void about(String what) {
        about = what;
    }

    static void is(int due, int got) {
        looked++;
        if (due != got) {
            fail("answered " + got + ", due is " + due);
        }
    }

    static void is(boolean due, boolean got) {
        is(due ? 1 : 0, got ? 1 : 0);
    }

    static void isNoSuchElement(Call call) {
        looked++;
        try {
            fail("answered " + call.answer() + ", due is NoSuchElementException");
        } catch (NoSuchElementException e) {
            // as due
        }
    }

    static void fail(String what) {
        wrong++;
        StackTraceElement[] stack = new Throwable().getStackTrace();
        int i = 0;
        while (i < stack.length - 1 && stack[i].getClassName().equals("Check")) {
            i++;
        }
        System.out.println(about + " (line " + stack[i].getLineNumber() + "): " + what);
    }

    static void end() {
        System.out.println(looked + " answers, " + wrong + " of them wrong");
        if (wrong != 0) {
            System.exit(1);
        }
    }

    /** Puts a text behind the tape, twenty bytes a call. */
    static void put(DebtTable t, String text) {
        int from = t.count(4);
        for (int i = 0; i < text.length(); i += 20) {
            t.feed(four(text, i), four(text, i + 4), four(text, i + 8), four(text, i + 12), four(text, i + 16));
        }
        if (!t.end(from + text.length())) {
            fail("the tape did not take a text");
        }
    }

    private static int four(String text, int from) {
        int n = 0;
        for (int i = from; i < from + 4; i++) {
            n = n << 8 | (i < text.length() ? text.charAt(i) : 0);
        }
        return n;
    }

    static int shire(DebtTable t, String text) {
        t.end(0);
        put(t, text);
        return t.shire();
    }

    static int book(DebtTable t, int lives, String text) {
        t.end(0);
        put(t, text);
        return t.book(lives);
    }

    static int sentence(DebtTable t, String text) {
        t.end(0);
        put(t, text);
        return t.sentence();
    }

    static int which(DebtTable t, int... pairs) {
        t.end(0);
        StringBuilder sb = new StringBuilder();
        for (int b : pairs) {
            sb.append((char) b);
        }
        put(t, sb.toString());
        return t.which();
    }

    static DebtTable of(String text) {
        DebtTable t = new DebtTable();
        if (shire(t, text) < 0) {
            fail("not a shire: " + text);
        }
        return t;
    }

    static String line(DebtTable t, int d) {
        int n = t.line(d);
        StringBuilder sb = new StringBuilder();
        for (int i = 0; i < n; i++) {
            sb.append((char) t.byteAt(i));
        }
        return sb.toString();
    }

    static void isText(String due, String got) {
        looked++;
        if (!due.equals(got)) {
            fail("answered '" + got + "', due is '" + due + "'");
        }
    }

    /** A fault of a text: its place as it is answered (the place itself) and its kind. */
    static void isFault(DebtTable t, int place, int kind, int answer, int base) {
        is(base - place, answer);
        is(kind, t.fault());
    }
}
