import java.util.ArrayList;
import java.util.List;
import java.util.NoSuchElementException;

/**
 * Each call is answered by what is so now, whatever earlier calls were about: the object uses its rows again, and
 * nothing that is left over in them may be told.
 */
public final class LeftOverTest {
    private static final int NONE = DebtTable.NONE;
    private static final String SENTENCE = "owes elm or coins>40";
    private static final String HOUSES = "house ash 30 5 2;house elm 10 0 1;house oak 50 2 3;";
    private static final String DEBTS = "debt ash elm 20 10;debt ash oak 15 40;debt elm oak 12 3;debt oak ash 8 7;"
            + "debt ash elm 5 10;";
    private static final String GROWS = "grows 2 4;";
    private static final String SHIRE = HOUSES + DEBTS + "debt elm ash 9 0;" + GROWS;
    private static final String BIG = "house f 9 9 6;house e 9 9 6;house d 9 9 6;house oak 9 9 6;house ash 9 9 6;"
            + "house elm 9 9 6;debt f e 200 99;debt e d 200 98;debt d f 200 97;debt oak f 9 9;debt elm oak 9 9;"
            + "debt ash f 9 9;debt ash e 9 9;debt ash d 9 9;debt elm f 9 9;debt elm e 9 9;debt elm d 9 9;"
            + "debt oak e 9 9;grows 9 1;";

    private static final List<String> WAYS = new ArrayList<>();
    private static final List<Check.Maker> MAKERS = new ArrayList<>();

    private LeftOverTest() { }

    /** What one call, or a call and those that tell of it, answers. */
    private interface Question {
        String answer(DebtTable t);
    }

    private interface Use {
        void of(DebtTable t);
    }

    public static void main(String[] args) {
        sameShireOtherwiseUsed();
        sameShireByActs();
        for (int i = 0; i < MAKERS.size(); i++) {
            for (Question question : questions()) {
                Check.about("left over from: " + WAYS.get(i));
                Check.isText(answerOf(question, plain()), answerOf(question, MAKERS.get(i).make()));
            }
        }
        bytesBehindTheEnd();
        whichBehindShortTexts();
        booksInARow();
        bookBorrows();
        Check.end();
    }

    private static String answerOf(Question question, DebtTable t) {
        try {
            return question.answer(t);
        } catch (NoSuchElementException e) {
            return "throws";
        }
    }

    private static DebtTable plain() {
        DebtTable t = Check.of(SHIRE);
        Check.sentence(t, SENTENCE);
        return t;
    }

    // ---- ways to the same shire

    private static void way(String name, Use use) {
        WAYS.add(name);
        MAKERS.add(() -> {
            DebtTable t = plain();
            use.of(t);
            return t;
        });
    }

    private static void awayAndBack(DebtTable t, String text) {
        t.image(1);
        Check.shire(t, text);
        t.years(7);
        Check.sentence(t, "not(free and full)");
        t.years(9);
        t.restore(1);
    }

    private static void sameShireOtherwiseUsed() {
        way("nothing", t -> { });
        way("a shire with a fault, larger", t -> Check.shire(t, BIG + "x"));
        way("a shire with a fault, smaller", t -> Check.shire(t, "house x 1 1 1;x"));
        way("a shire with a fault, empty", t -> Check.shire(t, "x"));
        way("another shire, larger", t -> awayAndBack(t, BIG));
        way("another shire, empty", t -> awayAndBack(t, ""));
        way("odds", t -> t.odds(0, 3, 7));
        way("meets", t -> t.meets(2));
        way("years undone", t -> {
            t.years(60);
            t.undo();
        });
        way("years by draws undone", t -> {
            t.drawn(60, 5);
            t.undo();
        });
        way("a book judged", t -> Check.book(t, 0, "forgive 0;forgive 1;oak borrows 9 ash;sell 2 ash;year 60;"));
        way("a book lived and undone", t -> {
            Check.book(t, 1, "forgive 0;year 60;pay 0 1;");
            t.undo();
        });
        way("a book with a fault", t -> Check.book(t, 1, "forgive 0;forgive 1;forgive 12;"));
        way("a sentence with a fault", t -> Check.sentence(t, "free or broke or full or owes yew"));
        way("a longer sentence", t -> {
            Check.sentence(t, "not(free or broke)and full or number=1 and not ringed or chairs<5");
            Check.sentence(t, SENTENCE);
        });
        way("an act that is not done", t -> t.pay(0, 999));
    }

    private static void byAct(String name, String text, Check.Act act) {
        WAYS.add(name);
        MAKERS.add(() -> {
            DebtTable t = Check.of(text);
            Check.sentence(t, SENTENCE);
            Check.is(0, act.on(t));
            return t;
        });
    }

    private static void sameShireByActs() {
        byAct("pay", SHIRE.replace("ash 30", "ash 37").replace("elm 10", "elm 3").replace("elm 20", "elm 27"),
                t -> t.pay(0, 7));
        byAct("borrow", SHIRE.replace("ash 30", "ash 39").replace("elm 10", "elm 1").replace("debt elm ash 9 0;", ""),
                t -> t.borrow(1, 0, 9));
        byAct("sell", SHIRE.replace("oak 50", "oak 62").replace("ash 30", "ash 18").replace("elm oak 12", "elm ash 12"),
                t -> t.sell(2, 2));
        byAct("a book's pay", SHIRE.replace("ash 30", "ash 37").replace("elm 10", "elm 3").replace("elm 20", "elm 27"),
                t -> Check.book(t, 1, "pay 0 7;") + 1);
        byAct("a book's borrows",
                SHIRE.replace("ash 30", "ash 39").replace("elm 10", "elm 1").replace("debt elm ash 9 0;", ""),
                t -> Check.book(t, 1, "elm borrows 9 ash;") + 1);
        byAct("a book's sell",
                SHIRE.replace("oak 50", "oak 62").replace("ash 30", "ash 18").replace("elm oak 12", "elm ash 12"),
                t -> Check.book(t, 1, "sell 2 oak;") + 1);
    }

    // ---- what is asked

    private static List<Question> questions() {
        List<Question> all = new ArrayList<>();
        for (int n = -1; n < 8; n++) {
            int k = n;
            all.add(t -> "count " + (k == 4 ? 0 : t.count(k)));
            // coins that were paid are not of the shire
            all.add(t -> "now " + (k == 4 ? 0 : t.now(k)));
            all.add(t -> "worth " + t.worth(k));
            all.add(t -> "top " + t.top(k));
            all.add(t -> "able " + t.able(k) + " " + (k < 0 || k > 2 ? 0 : t.ableOf()));
            all.add(t -> "meets " + t.meets(k));
            all.add(t -> "ring " + t.ring(k) + (k < 0 || k > 2 ? "" : " " + t.ringAt(0) + t.ringAt(1) + t.ringAt(2)));
            all.add(t -> "mean " + t.mean(k, 0));
            all.add(t -> "mean " + t.mean(0, k));
            all.add(t -> "line " + Check.line(t, k));
            all.add(t -> "said " + t.said(k));
            all.add(t -> "odds " + t.odds(k, 30, 11));
            all.add(t -> "which " + Check.which(t, 0, k & 7) + (k < 0 || k > 2 ? "" : " " + t.ask()));
            for (int m = -1; m < 8; m++) {
                int j = m;
                all.add(t -> "house " + t.house(k, j));
                all.add(t -> "debt " + t.debt(k, j));
                all.add(t -> "at " + t.at(k, j));
                all.add(t -> "pay " + t.pay(k, 3 * j) + now(t));
                all.add(t -> "borrow " + t.borrow(k, j, 5) + now(t));
                all.add(t -> "sell " + t.sell(k, j) + now(t));
                all.add(t -> "clear " + t.clear(k, j) + now(t));
            }
            all.add(t -> "forgive " + t.forgive(k) + now(t));
            all.add(t -> "years " + t.years(k) + now(t));
            all.add(t -> "drawn " + t.drawn(k, 3) + now(t));
        }
        all.add(t -> "settle " + t.settle());
        all.add(t -> "fullest " + t.fullest());
        all.add(t -> "book " + book(t, "elm borrows 9 ash;pay 6 5;sell 3 elm;clear 2 5;forgive 0;year 9;pay 1 99;"));
        all.add(t -> "book " + book(t, "f borrows 9 e;"));
        all.add(t -> "sentence " + Check.sentence(t, "owes elm and not owes oak or full") + t.said(NONE) + t.said(0));
        all.add(t -> "sentence " + Check.sentence(t, "owes f") + t.fault() + t.said(NONE));
        all.add(t -> "shire " + Check.shire(t, BIG) + Tale.ofNow(t));
        all.add(t -> "shire " + Check.shire(t, "debt ash elm 1 1;") + t.fault());
        all.add(t -> "shire " + Check.shire(t, HOUSES) + Tale.ofNow(t));
        return all;
    }

    private static String now(DebtTable t) {
        return Tale.ofNow(t).replaceAll("now 4: \\d+", "");
    }

    private static String book(DebtTable t, String text) {
        int answer = Check.book(t, 1, text);
        return answer + " " + t.fault() + (answer < NONE ? "" : " " + t.told(0) + t.told(1) + t.told(2) + t.told(3)) + now(t);
    }

    // ---- the tape

    /** Twenty bytes, of which the first ones are meant. */
    private static void cut(DebtTable t, String twenty, int length) {
        Check.put(t, twenty);
        Check.is(true, t.end(length));
    }

    private static void bytesBehindTheEnd() {
        Check.about("3: the tape has its first n bytes alone, whatever was behind them");
        DebtTable t = plain();
        cut(t, "year 1              ", 6);
        Check.is(-2 - 6, t.book(0));
        cut(t, "year 1;             ", 5);
        Check.is(-2 - 5, t.book(0));
        cut(t, "year 123456789012345", 6);
        Check.is(-2 - 6, t.book(0));
        cut(t, "grows 1 1           ", 9);
        Check.is(-1 - 9, t.shire());
        cut(t, "grows 1 1;;;;;;;;;;;", 10);
        Check.is(1, t.shire());
        cut(t, "grows 1 1 ;;;;;;;;;;", 10);
        Check.is(-1 - 10, t.shire());
        cut(t, "not                 ", 3);
        Check.is(-1 - 3, t.sentence());
        cut(t, "freedom or fullness ", 4);
        Check.is(1, t.sentence());
        cut(t, "free)))))))))))))))))", 4);
        Check.is(1, t.sentence());
        cut(t, "\0\0\0\0\0\0\0\0\0\0\0\0\0\0\0\0\0\0\0\0", 3);
        Check.is(NONE, t.which());
    }

    private static void whichBehindShortTexts() {
        Check.about("25: all bytes of the tape, whatever text came ahead of it");
        DebtTable t = new DebtTable();
        Check.is(NONE, Check.which(t, 5, 0));
        Check.is(0, Check.which(t, 4, 0));
        DebtTable u = plain();
        u.image(0);
        for (String text : new String[] {"", " ", "free", "x"}) {
            Check.sentence(u, text);
            Check.is(NONE, Check.which(u, 0, 0, 0, 0, 0, 0, 0, 0, 0, 0, 0, 0, 0, 0, 5, 0));
            Check.sentence(u, text);
            Check.is(0, Check.which(u, 0, 0, 0, 0, 0, 0, 0, 0, 0, 0, 0, 0, 0, 0, 0, 1));
            Check.sentence(u, text);
            Check.is(19, Check.which(u, 0, 0, 0, 0, 0, 0, 0, 0, 0, 0, 0, 0, 0, 0, 0, 0));
            Check.book(u, 0, text);
            Check.is(1, Check.which(u, 0, 0, 3, 10, 2, 20));
            Check.shire(u, text);
            u.restore(0);
            Check.is(16, Check.which(u, 0, 0, 3, 10, 2, 5));
        }
    }

    // ---- books

    private static void booksInARow() {
        Check.about("33: each BOOK by itself, whatever the one ahead of it was");
        DebtTable t = plain();
        String[] texts = {"year 1;".repeat(40), "pay 0 1;".repeat(3), "", "year 1;".repeat(40), "pay 1 99;", "year 2;",
            "forgive 0;forgive 0;", "year 1;".repeat(40) + "x"};
        int[] answers = {NONE, NONE, NONE, NONE, 0, NONE, 1, -2 - 280};
        int[] right = {40, 3, 0, 40, 0, 1, 1, 1};
        int[] why = {0, 0, 0, 0, 2, 0, 31, 31};
        int[] years = {40, 0, 0, 40, 0, 2, 0, 0};
        for (int i = 0; i < texts.length; i++) {
            Check.is(answers[i], Check.book(t, 0, texts[i]));
            Check.is(why[i], t.told(0));
            Check.is(right[i], t.told(1));
            Check.is(years[i], t.told(2));
        }
    }

    private static void bookBorrows() {
        Check.about("33: the first HOUSE BORROWS of the second");
        DebtTable t = plain();
        Check.is(NONE, Check.book(t, 1, "elm borrows 7 oak;ash borrows 6 elm;"));
        int[] due = {1, 2, 7, 0, 2, 0, 1, 6, 0, 3};
        for (int i = 0; i < due.length; i++) {
            Check.is(due[i], t.debt(6 + i / 5, i % 5));
        }
        Check.is(36, t.house(0, 0));
        Check.is(11, t.house(1, 0));
        Check.is(43, t.house(2, 0));
    }
}
