import java.util.NoSuchElementException;

/** What the tests of the promises share: texts onto a tape, answers against those that are due. */
final class Check {
    private static int wrong = 0;
    private static int looked = 0;
    private static String about = "";

    /** What a call that throws NoSuchElementException counts as answering. */
    static final int THROWS = Integer.MIN_VALUE;

    // ash owes elm 20, oak 15, elm 5; elm owes oak 12; oak owes ash 8
    static final String THREE = "house ash 30 5 2;house elm 10 0 1;house oak 50 2 3;debt ash elm 20 10;"
            + "debt ash oak 15 40;debt elm oak 12 3;debt oak ash 8 7;debt ash elm 5 10;grows 2 4;";
    static final String TWO = "house a 100 0 1;house b 100 0 1;";
    static final String SIX = "house a 1 1 1;house b 1 1 1;house c 1 1 1;house d 1 1 1;house e 1 1 1;house f 1 1 1;";

    private Check() { }

    interface Call {
        int answer();
    }

    interface Maker {
        DebtTable make();
    }

    interface Act {
        int on(DebtTable t);
    }

    static void about(String what) {
        about = what;
    }

    static void is(int due, int got) {
        looked++;
        if (due != got) {
            fail("answered " + got + ", due is " + due);
        }
    }

    static void is(boolean due, boolean got) {
        is(due ? 1 : 0, got ? 1 : 0);
    }

    static void isNoSuchElement(Call call) {
        looked++;
        try {
            fail("answered " + call.answer() + ", due is NoSuchElementException");
        } catch (NoSuchElementException e) {
            // as due
        }
    }

    private static int answerOf(DebtTable t, Act act) {
        try {
            return act.on(t);
        } catch (NoSuchElementException e) {
            return THROWS;
        }
    }

    /** A call that is refused: its answer, and all that stands as on an object that never had it. */
    static void refused(int due, Maker maker, Act act) {
        DebtTable without = maker.make();
        DebtTable with = maker.make();
        is(due, answerOf(with, act));
        is(without.fault(), with.fault());
        is(without.count(4), with.count(4));
        isText(Tale.of(without), Tale.of(with));
    }

    static void refused(int due, Act act) {
        refused(due, Check::rich, act);
    }

    /** A text that is refused: the place and the kind of its fault, an empty tape, and all else as it was. */
    static void refusedText(int due, int kind, Act act) {
        DebtTable without = rich();
        DebtTable with = rich();
        is(due, answerOf(with, act));
        is(kind, with.fault());
        is(0, with.count(4));
        isText(Tale.of(without), Tale.of(with));
    }

    /** An object of which nothing is as it was made: three acts to undo, an image, a sentence, a fault, a tape. */
    static DebtTable rich() {
        DebtTable t = of(THREE);
        t.image(0);
        sentence(t, "number>0");
        t.pay(1, 5);
        t.years(3);
        t.forgive(4);
        t.able(0);
        t.ring(1);
        t.line(0);
        which(t, 0, 0);
        book(t, 0, "year 2;pay 9 1;");
        sentence(t, "coins<1000");
        put(t, "free");
        return t;
    }

    static void fail(String what) {
        wrong++;
        StackTraceElement[] stack = new Throwable().getStackTrace();
        int i = 0;
        while (i < stack.length - 1 && stack[i].getClassName().equals("Check")) {
            i++;
        }
        System.out.println(about + " (line " + stack[i].getLineNumber() + "): " + what);
    }

    static void end() {
        System.out.println(looked + " answers, " + wrong + " of them wrong");
        if (wrong != 0) {
            System.exit(1);
        }
    }

    /** Puts a text behind the tape, twenty bytes a call. */
    static void put(DebtTable t, String text) {
        int from = t.count(4);
        for (int i = 0; i < text.length(); i += 20) {
            t.feed(four(text, i), four(text, i + 4), four(text, i + 8), four(text, i + 12), four(text, i + 16));
        }
        if (!t.end(from + text.length())) {
            fail("the tape did not take a text");
        }
    }

    private static int four(String text, int from) {
        int n = 0;
        for (int i = from; i < from + 4; i++) {
            n = n << 8 | (i < text.length() ? text.charAt(i) : 0);
        }
        return n;
    }

    static int shire(DebtTable t, String text) {
        t.end(0);
        put(t, text);
        return t.shire();
    }

    static int book(DebtTable t, int lives, String text) {
        t.end(0);
        put(t, text);
        return t.book(lives);
    }

    static int sentence(DebtTable t, String text) {
        t.end(0);
        put(t, text);
        return t.sentence();
    }

    static int which(DebtTable t, int... pairs) {
        t.end(0);
        StringBuilder sb = new StringBuilder();
        for (int b : pairs) {
            sb.append((char) b);
        }
        put(t, sb.toString());
        return t.which();
    }

    static DebtTable of(String text) {
        DebtTable t = new DebtTable();
        if (shire(t, text) < 0) {
            fail("not a shire: " + text);
        }
        return t;
    }

    static String line(DebtTable t, int d) {
        int n = t.line(d);
        StringBuilder sb = new StringBuilder();
        for (int i = 0; i < n; i++) {
            sb.append((char) t.byteAt(i));
        }
        return sb.toString();
    }

    static void isText(String due, String got) {
        looked++;
        if (!due.equals(got)) {
            String[] dueLines = due.split("\n");
            String[] gotLines = got.split("\n");
            int i = 0;
            while (i < dueLines.length - 1 && i < gotLines.length - 1 && dueLines[i].equals(gotLines[i])) {
                i++;
            }
            fail("answered '" + gotLines[i] + "', due is '" + dueLines[i] + "'");
        }
    }

    /** A fault of a text: its place as it is answered (the place itself) and its kind. */
    static void isFault(DebtTable t, int place, int kind, int answer, int base) {
        is(base - place, answer);
        is(kind, t.fault());
    }
}
