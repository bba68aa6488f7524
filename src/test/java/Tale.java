import java.util.NoSuchElementException;

/**
 * All that an object tells but for its fault and its tape, as a text. At the end it undoes what can be undone and
 * restores the images, so the object is used up. It takes fewer than 400 calls.
 */
final class Tale {
    private static final int HOUSES = 6;
    private static final int DEBTS = 12;
    private static final int LONGEST_LINE = 32;

    private Tale() { }

    static String of(DebtTable t) {
        StringBuilder sb = new StringBuilder();
        latest(t, sb);
        return sb.append(ofState(t)).toString();
    }

    /** Without what calls told last. */
    static String ofState(DebtTable t) {
        StringBuilder sb = new StringBuilder(ofNow(t));
        past(t, sb);
        return sb.toString();
    }

    /** What is so now alone: nothing is undone. */
    static String ofNow(DebtTable t) {
        StringBuilder sb = new StringBuilder();
        state(t, sb);
        houses(t, sb);
        debts(t, sb);
        return sb.toString();
    }

    /** What calls told last. */
    private static void latest(DebtTable t, StringBuilder sb) {
        put(sb, "ableOf", t.ableOf());
        put(sb, "ask", t.ask());
        for (int k = 0; k < HOUSES; k++) {
            put(sb, "ringAt " + k, t.ringAt(k));
        }
        for (int i = 0; i < LONGEST_LINE; i++) {
            put(sb, "byteAt " + i, t.byteAt(i));
        }
        for (int what = 0; what < 4; what++) {
            put(sb, "told " + what, t.told(what));
        }
    }

    private static void state(DebtTable t, StringBuilder sb) {
        for (int what = 0; what < 4; what++) {
            put(sb, "count " + what, t.count(what));
        }
        for (int what = 0; what < 7; what++) {
            put(sb, "now " + what, t.now(what));
        }
        for (int k = -1; k < HOUSES; k++) {
            put(sb, "said " + k, t.said(k));
        }
    }

    private static void houses(DebtTable t, StringBuilder sb) {
        for (int h = 0; h < HOUSES; h++) {
            try {
                for (int what = 0; what < 7; what++) {
                    put(sb, "house " + h + " " + what, t.house(h, what));
                }
            } catch (NoSuchElementException e) {
                sb.append("no house ").append(h).append('\n');
            }
            for (int k = 0; k < HOUSES; k++) {
                put(sb, "at " + h + " " + k, t.at(h, k));
            }
        }
    }

    private static void debts(DebtTable t, StringBuilder sb) {
        for (int d = 0; d < DEBTS; d++) {
            for (int what = 0; what < 5; what++) {
                put(sb, "debt " + d + " " + what, t.debt(d, what));
            }
            put(sb, "line " + d, t.line(d));
        }
    }

    private static void past(DebtTable t, StringBuilder sb) {
        int more = t.undo();
        for (int i = 0; i < 9 && more != DebtTable.NONE; i++) {
            put(sb, "undo", more);
            for (int what = 0; what < 5; what++) {
                put(sb, "then " + what, t.now(what));
            }
            more = t.undo();
        }
        for (int k = 0; k < 2; k++) {
            put(sb, "restore " + k, t.restore(k) ? 1 : 0);
            for (int what = 0; what < 5; what++) {
                put(sb, "kept " + what, t.now(what));
            }
            put(sb, "kept said", t.said(-1));
        }
    }

    private static void put(StringBuilder sb, String what, int answer) {
        sb.append(what).append(": ").append(answer).append('\n');
    }
}
