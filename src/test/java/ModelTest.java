import java.lang.reflect.InvocationTargetException;
import java.lang.reflect.Method;
import java.util.ArrayList;
import java.util.HashMap;
import java.util.List;
import java.util.Map;
import java.util.Random;

/** Runs of drawn calls, each made on DebtTable and on Model: every answer must be the same. */
public final class ModelTest {
    private static final int RUNS = 4000;
    private static final int CALLS = 512;
    private static final String[] NAMES = {"ash", "brook", "cole", "d", "eeeeeee", "fen", "gale"};

    private static final int[] EXTREMES = {Integer.MIN_VALUE, Integer.MAX_VALUE, -2, -1, 6, 12, 31, 32, 33, 64, 1 << 16};

    private static final Map<String, Method> REAL = methods(DebtTable.class);
    private static final Map<String, Method> PLAIN = methods(Model.class);

    private final Random random;
    private final DebtTable real = new DebtTable();
    private final Model model = new Model();
    private final List<String> log = new ArrayList<>();
    private int calls = 0;
    private String wrong = null;

    private ModelTest(long seed) {
        random = new Random(seed);
    }

    private static Map<String, Method> methods(Class<?> c) {
        Map<String, Method> all = new HashMap<>();
        for (Method m : c.getDeclaredMethods()) {
            m.setAccessible(true);
            all.put(m.getName() + m.getParameterCount(), m);
        }
        return all;
    }

    private static String answer(Method m, Object on, Object[] args) {
        try {
            return String.valueOf(m.invoke(on, args));
        } catch (InvocationTargetException e) {
            return "throws." + e.getCause().getClass().getSimpleName();
        } catch (IllegalAccessException e) {
            throw new IllegalStateException(e);
        }
    }

    private String call(String name, Integer... args) {
        if (wrong != null || calls == CALLS) {
            return "";
        }
        calls++;
        if (args.length > 0 && oneIn(60) && !name.equals("feed") && !name.equals("end")) {
            args[below(args.length)] = EXTREMES[below(EXTREMES.length)];
        }
        String got = answer(REAL.get(name + args.length), real, args);
        String due = answer(PLAIN.get(name + args.length), model, args);
        log.add(name + List.of(args) + " = " + got);
        if (!got.equals(due)) {
            wrong = log.get(log.size() - 1) + ", due is " + due;
        }
        return got;
    }

    private int below(int n) {
        return random.nextInt(n);
    }

    private boolean oneIn(int n) {
        return below(n) == 0;
    }

    /** From least to most, the edges and what is beyond them more often than by chance. */
    private int number(int least, int most) {
        return switch (below(60)) {
            case 0 -> least;
            case 1 -> most;
            case 2 -> least - 1;
            case 3 -> most + 1;
            default -> least + below(most - least + 1);
        };
    }

    private int safeNumber(int least, int most) {
        return oneIn(12) ? most : least + below(most - least + 1);
    }

    private int houseNumber() {
        return oneIn(15) ? below(9) - 1 : below(6);
    }

    private int debtNumber() {
        return oneIn(15) ? below(15) - 1 : below(oneIn(2) ? 6 : 12);
    }

    // ---- texts

    private void text(String text) {
        byte[] bytes = new byte[(text.length() + 19) / 20 * 20];
        for (int i = 0; i < text.length(); i++) {
            bytes[i] = (byte) text.charAt(i);
        }
        for (int i = 0; i < bytes.length; i += 20) {
            Integer[] five = new Integer[5];
            for (int k = 0; k < 5; k++) {
                int n = 0;
                for (int j = 0; j < 4; j++) {
                    n = n << 8 | bytes[i + 4 * k + j] & 255;
                }
                five[k] = n;
            }
            call("feed", five);
        }
        call("end", text.length());
    }

    private String blank() {
        return switch (below(12)) {
            case 0 -> "\n";
            case 1 -> "  ";
            default -> " ";
        };
    }

    private String maybeBlank() {
        return oneIn(3) ? blank() : "";
    }

    private String name(int most) {
        return NAMES[below(most)];
    }

    private String end() {
        return maybeBlank() + ";" + maybeBlank();
    }

    private String words(Object... parts) {
        StringBuilder sb = new StringBuilder();
        for (int i = 0; i < parts.length; i++) {
            sb.append(i == 0 ? "" : blank()).append(parts[i]);
        }
        return sb.toString();
    }

    private String shireText() {
        StringBuilder sb = new StringBuilder();
        int houses = oneIn(12) ? below(8) : 2 + below(5);
        int debts = oneIn(12) ? below(14) : below(13);
        int rich = oneIn(3) ? 999 : oneIn(2) ? 60 : 200;
        int dear = oneIn(3) ? 200 : oneIn(2) ? 6 : 40;
        int grows = below(3);
        if (grows == 0) {
            sb.append(words("grows", safeNumber(0, 9), safeNumber(1, oneIn(2) ? 4 : 30))).append(end());
        }
        for (int h = 0; h < houses && h < 7; h++) {
            sb.append(words("house", NAMES[h], safeNumber(0, rich), safeNumber(0, oneIn(2) ? 2 : 30),
                    safeNumber(1, 6))).append(end());
        }
        for (int d = 0; d < debts && houses >= 2; d++) {
            int h = below(Math.min(houses, 6));
            int g = below(Math.min(houses, 6));
            if (h != g) {
                sb.append(words("debt", NAMES[h], NAMES[g], safeNumber(1, dear), safeNumber(0, oneIn(2) ? 3 : 99)))
                        .append(end());
            }
        }
        if (grows == 1) {
            sb.append(words("grows", safeNumber(0, 9), safeNumber(1, oneIn(2) ? 4 : 30))).append(end());
        }
        return sb.toString();
    }

    private String bookText() {
        StringBuilder sb = new StringBuilder();
        int lines = oneIn(10) ? 38 + below(5) : below(8);
        for (int i = 0; i < lines; i++) {
            String line = switch (lines > 30 ? 5 + below(2) : below(7)) {
                case 0 -> words("pay", below(oneIn(3) ? 12 : 4), 1 + below(oneIn(3) ? 999 : 10));
                case 1 -> words(name(4), "borrows", safeNumber(1, oneIn(4) ? 200 : 20), name(4));
                case 2 -> words("sell", below(oneIn(3) ? 12 : 4), name(4));
                case 3 -> words("forgive", below(oneIn(2) ? 12 : 6));
                case 4 -> words("clear", below(12), below(12));
                case 5 -> words("year", oneIn(9) ? 60 : 1 + below(3));
                default -> words(name(2), "borrows", 1, NAMES[2]);
            };
            sb.append(line).append(lines > 30 ? ";" : end());
        }
        return sb.toString();
    }

    private String one(int depth) {
        int kind = depth > 0 ? below(11) : 3 + below(8);
        return switch (kind) {
            case 0 -> words("not", one(depth - 1));
            case 1, 2 -> "(" + maybeBlank() + condition(depth - 1) + maybeBlank() + ")";
            case 3 -> "free";
            case 4 -> "broke";
            case 5 -> "full";
            case 6 -> "ringed";
            case 7 -> words("owes", name(4));
            default -> List.of("coins", "debts", "chairs", "number").get(below(4)) + maybeBlank()
                    + List.of("<", "=", ">").get(below(3)) + maybeBlank() + below(oneIn(3) ? 1000 : 8);
        };
    }

    private String condition(int depth) {
        StringBuilder sb = new StringBuilder(one(depth));
        int more = oneIn(8) ? below(8) : below(3);
        for (int i = 0; i < more; i++) {
            sb.append(blank()).append(oneIn(2) ? "or" : "and").append(blank()).append(one(depth - 1));
        }
        return sb.toString();
    }

    private String sentenceText() {
        if (oneIn(10)) {
            StringBuilder sb = new StringBuilder();
            int deep = 5 + below(5);
            for (int i = 0; i < deep; i++) {
                sb.append(oneIn(2) ? "not " : "(");
            }
            sb.append("free");
            for (int i = 0; i < sb.length(); i++) {
                if (sb.charAt(i) == '(') {
                    sb.append(')');
                }
            }
            return sb.toString();
        }
        return condition(below(6));
    }

    private static final String ODD = " \n;<=>()a0z9.A\t\0{`/:\u00e9\u00ff";
    private static final String[] PIECES = {"house", "debt", "grows", "pay", "borrows", "sell", "forgive", "clear",
        "year", "or", "and", "not", "free", "broke", "full", "owes", "ringed", "coins", "debts", "chairs", "number",
        "ash", "brook", "zzz", "abcdefgh", "abcdefg", "0", "000", "007", "1000", "999", "12", "11", "200", "201",
        "a1", "1a", ";", "<", "=", ">", "(", ")", "."};

    private static final String[] NUMBERS = {"0", "1", "00", "000", "6", "7", "9", "10", "11", "12", "30", "31", "60",
        "61", "99", "100", "200", "201", "999", "012", "0000"};

    private String spoil(String text) {
        StringBuilder sb = new StringBuilder(text);
        int times = 1 + below(2);
        for (int i = 0; i < times; i++) {
            int at = below(sb.length() + 1);
            switch (below(8)) {
                case 0 -> sb.insert(at, ODD.charAt(below(ODD.length())));
                case 1 -> sb.delete(at, Math.min(sb.length(), at + 1 + below(3)));
                case 2 -> sb.setLength(at);
                case 3 -> sb.insert(at, " " + PIECES[below(PIECES.length)] + " ");
                case 4 -> {
                    if (at < sb.length()) {
                        sb.setCharAt(at, ODD.charAt(below(ODD.length())));
                    }
                }
                case 5 -> swapToken(sb, PIECES, "\\S+");
                default -> swapToken(sb, NUMBERS, "[0-9]+");
            }
        }
        return sb.toString();
    }

    /** One token becomes another one: faults of all kinds come of it. */
    private void swapToken(StringBuilder sb, String[] by, String which) {
        String[] parts = sb.toString().split("(?<=[ \n;<=>()])|(?=[ \n;<=>()])");
        int at = below(parts.length);
        for (int i = 0; i < 20 && !parts[at].matches(which); i++) {
            at = below(parts.length);
        }
        if (parts[at].matches(which)) {
            parts[at] = by[below(by.length)];
        }
        sb.setLength(0);
        sb.append(String.join("", parts));
    }

    private String lengthen(String text, int limit) {
        StringBuilder sb = new StringBuilder(text);
        int to = limit - 4 + below(9);
        int at = oneIn(2) ? sb.length() : sb.indexOf(" ") + 1;
        while (sb.length() < to) {
            sb.insert(Math.min(at, sb.length()), ' ');
        }
        return sb.toString();
    }

    private String shaped(String text, int limit) {
        String shaped = text;
        if (oneIn(4)) {
            shaped = spoil(shaped);
        }
        if (oneIn(10)) {
            shaped = lengthen(shaped, limit);
        }
        return shaped.length() > 940 ? shaped.substring(0, 940) : shaped;
    }

    // ---- calls

    private void emptyTape() {
        if (!call("count", 4).equals("0")) {
            call("end", 0);
        }
    }

    private void readShire(boolean sound) {
        emptyTape();
        String text = shireText();
        text(sound ? text.substring(0, Math.min(940, text.length())) : shaped(text, 900));
        call("shire");
        call("fault");
    }

    private void readBook() {
        emptyTape();
        text(shaped(bookText(), 400));
        if (oneIn(20)) {
            call("book", oneIn(2) ? 2 : -1);
        }
        call("book", below(2));
        call("fault");
        for (int what = 0; what < 4; what++) {
            call("told", what);
        }
    }

    private void readSentence() {
        emptyTape();
        String text = shaped(sentenceText(), 200);
        text(text);
        call("sentence");
        call("fault");
        sayIt();
    }

    private void sayIt() {
        call("said", -1);
        for (int k = 0; k < 3; k++) {
            call("said", below(8) - 2);
        }
    }

    private void readWhich() {
        emptyTape();
        int pairs = oneIn(10) ? below(11) : 1 + below(2);
        StringBuilder sb = new StringBuilder();
        for (int i = 0; i < pairs; i++) {
            int what = oneIn(25) ? 5 + below(250) : below(5);
            sb.append((char) what).append((char) (oneIn(20) ? below(256) : below(what == 2 || what == 3 ? 12 : 4)));
        }
        if (oneIn(25)) {
            sb.append((char) 1);
        }
        text(sb.toString());
        call("which");
        call("ask");
    }

    private void lookAtAll() {
        for (int what = -1; what < 8; what++) {
            call("now", what);
        }
        for (int h = 0; h < 6; h++) {
            call("house", h, 0);
            call("house", h, 5);
        }
        for (int d = 0; d < 12; d++) {
            call("debt", d, 1);
            call("debt", d, 2);
            call("debt", d, 3);
        }
    }

    private void lookAtLine() {
        call("line", debtNumber());
        call("byteAt", below(34) - 1);
        for (int i = 0; i < 12; i++) {
            call("byteAt", below(32));
        }
    }

    private void look() {
        switch (below(18)) {
            case 0 -> call("house", houseNumber(), below(9) - 1);
            case 1 -> call("worth", houseNumber());
            case 2 -> call("debt", debtNumber(), below(7) - 1);
            case 3 -> call("at", houseNumber(), below(8) - 1);
            case 4 -> call("now", below(9) - 1);
            case 5 -> call("top", debtNumber());
            case 6 -> {
                call("able", houseNumber());
                call("ableOf");
            }
            case 7 -> call("meets", houseNumber());
            case 8 -> {
                call("ring", houseNumber());
                for (int k = -1; k < 7; k++) {
                    call("ringAt", k);
                }
            }
            case 9 -> call("settle");
            case 10 -> readWhich();
            case 11 -> call("fullest");
            case 12 -> {
                call("mean", houseNumber(), 0);
                call("mean", houseNumber(), below(4) - 1);
            }
            case 13 -> lookAtLine();
            case 14 -> call("odds", houseNumber(), number(1, 30), random.nextInt());
            case 15 -> sayIt();
            case 16 -> call("count", below(7) - 1);
            default -> call("told", below(6) - 1);
        }
    }

    private void act() {
        switch (below(14)) {
            case 0, 1 -> call("pay", debtNumber(), number(1, oneIn(3) ? 999 : 15));
            case 2, 3 -> call("borrow", houseNumber(), houseNumber(), number(1, oneIn(3) ? 200 : 20));
            case 4, 5 -> call("sell", debtNumber(), houseNumber());
            case 6 -> call("forgive", debtNumber());
            case 7 -> call("clear", debtNumber(), debtNumber());
            case 8 -> call("years", oneIn(3) ? number(1, 60) : 1 + below(3));
            case 9 -> call("undo");
            case 10 -> call("drawn", oneIn(3) ? number(1, 60) : 1 + below(4), random.nextInt());
            case 11 -> readBook();
            case 12 -> call("image", below(oneIn(9) ? 4 : 2) - (oneIn(20) ? 1 : 0));
            default -> {
                if (oneIn(3)) {
                    call("restore", below(oneIn(9) ? 4 : 2) - (oneIn(20) ? 1 : 0));
                }
            }
        }
    }

    /** Towards the last year, where houses may have as many coins as they can. */
    private void goOn() {
        int times = 4 + below(4);
        for (int i = 0; i < times; i++) {
            call("years", 60);
            if (oneIn(6)) {
                call("undo");
            }
        }
    }

    private void go() {
        int start = oneIn(5) ? below(8) : 0;
        for (int i = 0; i < start; i++) {
            look();
            act();
        }
        readShire(true);
        if (oneIn(5)) {
            goOn();
        }
        while (wrong == null && calls < CALLS) {
            int kind = below(30);
            if (kind < 12) {
                act();
            } else if (kind < 24) {
                look();
            } else if (kind == 24) {
                readSentence();
            } else if (kind == 25) {
                lookAtAll();
            } else if (kind == 26) {
                call("fault");
            } else if (kind == 27 && oneIn(2)) {
                readShire(oneIn(2));
            } else if (kind == 28) {
                for (int i = 0; i < below(12); i++) {
                    call("undo");
                }
            } else if (oneIn(8)) {
                for (int i = 0; i < 50; i++) {
                    call("feed", random.nextInt(), random.nextInt(), i, -i, 0);
                }
                call("end", 930 + below(20));
                call("end", -1);
            }
        }
    }

    public static void main(String[] args) {
        int failures = 0;
        for (int seed = 0; seed < RUNS && failures < 3; seed++) {
            ModelTest test = new ModelTest(seed);
            test.go();
            if (test.wrong != null) {
                failures++;
                int from = Math.max(0, test.log.size() - 40);
                System.out.println("run " + seed + ":\n  " + String.join("\n  ", test.log.subList(from, test.log.size())));
                System.out.println("run " + seed + ": " + test.wrong);
            }
        }
        System.out.println(failures == 0 ? RUNS + " runs are as the model's" : failures + " runs are not");
        if (failures != 0) {
            System.exit(1);
        }
    }
}
