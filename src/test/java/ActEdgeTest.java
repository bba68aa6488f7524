/**
 * The bounds that the document names in part 2 of its terms and in the promises on acts, years, undoing, draws,
 * books and images: of each the value just inside and the one just outside, and what stands when an act is refused.
 */
public final class ActEdgeTest {
    private static final int NONE = DebtTable.NONE;
    private static final int[] FAR = {Integer.MIN_VALUE, Integer.MAX_VALUE, -2, -1, 1 << 16};
    private static final String TWO = Check.TWO;
    private static final String SIX = Check.SIX;

    private ActEdgeTest() { }

    public static void main(String[] args) {
        payNumbers();
        payReasons();
        borrowNumbers();
        borrowReasons();
        sellNumbers();
        sellReasons();
        forgive();
        clearNumbers();
        clearReasons();
        clearSums();
        yearsNumbers();
        lastYear();
        incomes();
        ages();
        growing();
        undoEight();
        undoOfRefused();
        undoOfEach();
        undoAhead();
        drawnNumbers();
        drawnEdges();
        drawnLastYear();
        oddsNumbers();
        oddsYears();
        bookLives();
        bookWrong();
        bookReasons();
        bookYears();
        told();
        imageNumbers();
        restoreNumbers();
        images();
        Check.end();
    }

    // ---- PAY

    private static void payNumbers() {
        Check.about("11: NONE: no such DEBT");
        Check.refused(NONE, t -> t.pay(5, 1));
        for (int far : FAR) {
            Check.refused(NONE, t -> t.pay(far, 1));
        }
        Check.refused(NONE, DebtTable::new, t -> t.pay(0, 1));
        DebtTable full = Check.of(TWO + "debt a b 1 0;".repeat(12));
        Check.is(NONE, full.pay(12, 1));
        Check.is(0, full.pay(11, 1));
        Check.about("11: n is 1 to 999");
        Check.refused(NONE, t -> t.pay(0, 0));
        Check.refused(NONE, t -> t.pay(0, 1000));
        for (int far : FAR) {
            Check.refused(NONE, t -> t.pay(0, far));
        }
        // ahead of all reasons
        Check.refused(NONE, t -> t.pay(4, 0));
        Check.refused(NONE, t -> t.pay(4, 1000));
        Check.is(0, Check.rich().pay(0, 1));
        Check.refused(2, t -> t.pay(0, 999));
        Check.is(0, rich1001().pay(0, 999));
        Check.refused(NONE, ActEdgeTest::rich1001, t -> t.pay(0, 1000));
        DebtTable t = rich1001();
        Check.is(0, t.pay(0, 999));
        Check.is(2, t.debt(0, 2));
        Check.is(3669 - 999, t.house(0, 0));
        Check.is(999, t.house(1, 0));
        Check.is(999, t.now(4));
    }

    /** A debt of 1001 in the year 89, and a house that could pay it. */
    private static DebtTable rich1001() {
        DebtTable t = Check.of("house a 999 30 1;house b 0 0 1;debt a b 200 0;grows 9 1;");
        t.years(60);
        t.years(29);
        return t;
    }

    private static DebtTable poor() {
        return Check.of("house a 10 0 1;house b 0 0 1;debt a b 20 0;debt a b 10 0;debt a b 11 0;debt b a 1 0;");
    }

    private static void payReasons() {
        Check.about("PAY 1: it is not open");
        Check.refused(1, t -> t.pay(4, 1));
        // the least: more than is left of it, too
        Check.refused(1, t -> t.pay(4, 999));
        DebtTable t = poor();
        Check.is(0, t.pay(1, 9));
        Check.is(1, t.debt(1, 2));
        Check.is(14 + 1, t.now(3));
        Check.is(0, t.pay(1, 1));
        Check.is(1, t.pay(1, 1));
        Check.is(13, t.now(3));
        Check.about("PAY 2: n is more than is left of it");
        Check.refused(2, ActEdgeTest::poor, u -> u.pay(1, 11));
        Check.is(0, poor().pay(1, 10));
        // the least: more than the coins, too
        Check.refused(2, ActEdgeTest::poor, u -> u.pay(0, 21));
        Check.refused(2, ActEdgeTest::poor, u -> u.pay(3, 2));
        Check.about("PAY 3: who owes it has not so many coins");
        Check.refused(3, ActEdgeTest::poor, u -> u.pay(0, 20));
        Check.refused(3, ActEdgeTest::poor, u -> u.pay(0, 11));
        Check.refused(3, ActEdgeTest::poor, u -> u.pay(2, 11));
        Check.refused(3, ActEdgeTest::poor, u -> u.pay(3, 1));
        DebtTable all = poor();
        Check.is(0, all.pay(0, 10));
        Check.is(0, all.house(0, 0));
        Check.is(10, all.house(1, 0));
        Check.is(10, all.debt(0, 2));
        Check.is(3, all.pay(0, 1));
        Check.is(0, all.pay(3, 1));
        Check.is(0, all.pay(0, 1));
        Check.is(12, all.now(4));
    }

    // ---- BORROW

    private static void borrowNumbers() {
        Check.about("12: NONE: no such HOUSES");
        Check.refused(NONE, t -> t.borrow(3, 0, 1));
        Check.refused(NONE, t -> t.borrow(0, 3, 1));
        Check.refused(NONE, t -> t.borrow(6, 7, 1));
        for (int far : FAR) {
            Check.refused(NONE, t -> t.borrow(far, 0, 1));
            Check.refused(NONE, t -> t.borrow(0, far, 1));
        }
        Check.refused(NONE, DebtTable::new, t -> t.borrow(0, 1, 1));
        Check.about("12: NONE: alike");
        for (int h = 0; h < 3; h++) {
            int alike = h;
            Check.refused(NONE, t -> t.borrow(alike, alike, 1));
        }
        Check.is(0, Check.of(SIX).borrow(5, 4, 1));
        Check.about("12: n is 1 to 200");
        Check.refused(NONE, t -> t.borrow(0, 1, 0));
        Check.refused(NONE, t -> t.borrow(0, 1, 201));
        for (int far : FAR) {
            Check.refused(NONE, t -> t.borrow(0, 1, far));
        }
        Check.is(0, Check.rich().borrow(0, 1, 1));
        Check.is(0, Check.of("house a 0 0 1;house b 999 0 1;").borrow(0, 1, 200));
        Check.is(NONE, Check.of("house a 0 0 1;house b 999 0 1;").borrow(0, 1, 201));
        // ahead of all reasons
        Check.is(NONE, Check.of(TWO + "debt a b 1 0;".repeat(12)).borrow(0, 0, 1));
        Check.is(NONE, Check.of(TWO + "debt a b 1 0;".repeat(12)).borrow(0, 1, 201));
    }

    private static DebtTable twelve() {
        return Check.of(TWO + "debt a b 1 0;".repeat(12));
    }

    private static void borrowReasons() {
        Check.about("BORROW 1: there are 12 DEBTS, open or not");
        DebtTable t = Check.of(TWO + "debt a b 1 0;".repeat(11));
        Check.is(0, t.borrow(1, 0, 5));
        Check.is(12, t.count(1));
        Check.is(5, t.debt(11, 2));
        Check.is(1, t.borrow(1, 0, 5));
        Check.refused(1, ActEdgeTest::twelve, u -> u.borrow(0, 1, 1));
        // the least: too few coins, too
        Check.refused(1, ActEdgeTest::twelve, u -> u.borrow(0, 1, 200));
        for (int d = 0; d < 12; d++) {
            t.forgive(d);
        }
        Check.is(0, t.now(3));
        Check.is(1, t.borrow(0, 1, 1));
        Check.is(12, t.count(1));
        Check.about("BORROW 2: that one has not so many coins");
        Check.refused(2, u -> u.borrow(0, 1, 11));
        Check.refused(2, u -> u.borrow(0, 1, 200));
        DebtTable rich = Check.rich();
        Check.is(0, rich.borrow(0, 1, 10));
        Check.is(0, rich.house(1, 0));
        Check.is(50, rich.house(0, 0));
        Check.is(2, rich.borrow(0, 1, 1));
        Check.is(0, Check.of("house a 0 0 1;house b 200 0 1;").borrow(0, 1, 200));
        Check.is(2, Check.of("house a 0 0 1;house b 199 0 1;").borrow(0, 1, 200));
        Check.about("BORROW: a DEBT of n and AGE 0 comes behind the others");
        DebtTable u = Check.of(TWO + "debt a b 7 0;");
        u.borrow(0, 1, 3);
        int[] due = {0, 1, 3, 0, 1};
        for (int what = 0; what < 5; what++) {
            Check.is(due[what], u.debt(1, what));
        }
        u.years(2);
        u.borrow(0, 1, 4);
        Check.is(2, u.debt(2, 4));
        Check.is(0, u.debt(2, 3));
    }

    // ---- SELL

    private static DebtTable market() {
        return Check.of("house a 0 0 1;house b 5 0 1;house c 10 0 1;house d 9 0 1;debt a b 10 3;debt a b 4 0;");
    }

    private static void sellNumbers() {
        Check.about("13: NONE: no such ones");
        Check.refused(NONE, t -> t.sell(5, 0));
        Check.refused(NONE, t -> t.sell(0, 3));
        for (int far : FAR) {
            Check.refused(NONE, t -> t.sell(far, 0));
            Check.refused(NONE, t -> t.sell(0, far));
        }
        Check.refused(NONE, DebtTable::new, t -> t.sell(0, 0));
        Check.is(NONE, twelve().sell(12, 0));
        Check.is(2, twelve().sell(11, 1));
        // ahead of all reasons: the DEBT is not open
        Check.refused(NONE, t -> t.sell(4, 3));
    }

    private static void sellReasons() {
        Check.about("SELL 1: it is not open");
        for (int h = 0; h < 3; h++) {
            int to = h;
            // the least: owed to that one, owed by it, too
            Check.refused(1, t -> t.sell(4, to));
        }
        Check.about("SELL 2: it is owed to that one");
        Check.refused(2, ActEdgeTest::market, t -> t.sell(0, 1));
        Check.refused(2, ActEdgeTest::market, t -> t.sell(1, 1));
        Check.about("SELL 3: that one owes it");
        Check.refused(3, ActEdgeTest::market, t -> t.sell(0, 0));
        Check.refused(3, t -> t.sell(1, 0));
        Check.about("SELL 4: that one has not as many coins as are left of it");
        Check.refused(4, ActEdgeTest::market, t -> t.sell(0, 3));
        DebtTable t = market();
        Check.is(0, t.sell(0, 2));
        int[] coins = {0, 15, 0, 9};
        for (int h = 0; h < 4; h++) {
            Check.is(coins[h], t.house(h, 0));
        }
        int[] due = {0, 2, 10, 3, 0};
        for (int what = 0; what < 5; what++) {
            Check.is(due[what], t.debt(0, what));
        }
        Check.is(0, t.now(4));
        Check.is(2, t.sell(0, 2));
        Check.is(4, t.sell(1, 2));
        // what is left of it, not what it was
        Check.is(0, t.borrow(0, 3, 1));
        Check.is(0, t.pay(0, 1));
        Check.is(0, t.borrow(2, 3, 8));
        Check.is(9, t.house(2, 0));
        Check.is(0, t.sell(0, 1));
        Check.is(18, t.house(2, 0));
        Check.is(6, t.house(1, 0));
    }

    // ---- FORGIVE, CLEAR

    private static void forgive() {
        Check.about("14: NONE: no such one");
        Check.refused(NONE, t -> t.forgive(5));
        for (int far : FAR) {
            Check.refused(NONE, t -> t.forgive(far));
        }
        Check.refused(NONE, DebtTable::new, t -> t.forgive(0));
        Check.is(NONE, twelve().forgive(12));
        Check.is(0, twelve().forgive(11));
        Check.about("FORGIVE 1: it is not open: forgiven, paid or cleared");
        Check.refused(1, t -> t.forgive(4));
        DebtTable t = Check.of(TWO + "debt a b 5 0;debt a b 5 0;debt b a 5 0;");
        t.pay(0, 5);
        Check.is(1, t.forgive(0));
        t.clear(1, 2);
        Check.is(1, t.forgive(1));
        Check.is(1, t.forgive(2));
        Check.about("FORGIVE: nothing of it is left, no coins go over");
        DebtTable u = Check.rich();
        Check.is(0, u.forgive(0));
        Check.is(0, u.debt(0, 2));
        Check.is(40, u.house(0, 0));
        Check.is(10, u.house(1, 0));
        Check.is(5, u.now(4));
    }

    private static void clearNumbers() {
        Check.about("15: NONE: no such ones");
        Check.refused(NONE, t -> t.clear(5, 0));
        Check.refused(NONE, t -> t.clear(0, 5));
        Check.refused(NONE, t -> t.clear(5, 5));
        for (int far : FAR) {
            Check.refused(NONE, t -> t.clear(far, 0));
            Check.refused(NONE, t -> t.clear(0, far));
        }
        // ahead of all reasons: the other one is not open
        Check.refused(NONE, t -> t.clear(4, 5));
        Check.refused(NONE, t -> t.clear(5, 4));
        Check.refused(NONE, DebtTable::new, t -> t.clear(0, 0));
        Check.is(NONE, twelve().clear(11, 12));
        Check.is(2, twelve().clear(11, 10));
    }

    private static void clearReasons() {
        Check.about("CLEAR 1: one is not open");
        Check.refused(1, t -> t.clear(4, 0));
        Check.refused(1, t -> t.clear(0, 4));
        // the least: not to one another, itself
        Check.refused(1, t -> t.clear(4, 3));
        Check.refused(1, t -> t.clear(4, 4));
        Check.about("CLEAR 2: they are not of two HOUSES to one another");
        Check.refused(2, t -> t.clear(0, 1));
        Check.refused(2, t -> t.clear(0, 2));
        Check.refused(2, t -> t.clear(2, 0));
        Check.refused(2, t -> t.clear(2, 3));
        Check.refused(2, t -> t.clear(3, 2));
        Check.refused(2, t -> t.clear(3, 0));
        Check.refused(2, ActEdgeTest::twelve, t -> t.clear(0, 1));
        Check.about("CLEAR 2: a DEBT with itself is not");
        for (int d = 0; d < 4; d++) {
            int itself = d;
            Check.refused(2, t -> t.clear(itself, itself));
        }
    }

    private static void clearSums() {
        Check.about("CLEAR: each is less by what is left of the lesser one");
        int[][] sums = {{7, 7, 0, 0}, {7, 8, 0, 1}, {8, 7, 1, 0}, {1, 200, 0, 199}, {200, 1, 199, 0}};
        for (int[] s : sums) {
            DebtTable t = Check.of(TWO + "debt a b " + s[0] + " 0;debt b a " + s[1] + " 0;");
            Check.is(0, t.clear(0, 1));
            Check.is(s[2], t.debt(0, 2));
            Check.is(s[3], t.debt(1, 2));
            Check.is(100, t.house(0, 0));
            Check.is(100, t.house(1, 0));
            Check.is(0, t.now(4));
            Check.is(1, t.clear(0, 1));
        }
    }

    // ---- YEARS

    private static void yearsNumbers() {
        Check.about("16: n is 1 to 60");
        Check.refused(NONE, t -> t.years(0));
        Check.refused(NONE, t -> t.years(61));
        for (int far : FAR) {
            Check.refused(NONE, t -> t.years(far));
        }
        Check.is(1, Check.rich().years(1));
        DebtTable t = Check.rich();
        Check.is(60, t.years(60));
        Check.is(63, t.now(0));
        DebtTable empty = new DebtTable();
        Check.is(60, empty.years(60));
        Check.is(60, empty.now(0));
    }

    /** In the year 390, ten years ahead of the last one. */
    private static DebtTable late() {
        DebtTable t = Check.of(Check.THREE);
        for (int i = 0; i < 6; i++) {
            t.years(60);
        }
        t.years(30);
        return t;
    }

    private static DebtTable over() {
        DebtTable t = late();
        t.years(10);
        return t;
    }

    private static void lastYear() {
        Check.about("YEAR: 0 to 399; 400: all are over");
        Check.is(390, late().now(0));
        DebtTable t = late();
        Check.is(9, t.years(9));
        Check.is(399, t.now(0));
        Check.is(1, t.years(1));
        Check.is(400, t.now(0));
        Check.is(10, late().years(10));
        DebtTable more = late();
        Check.is(10, more.years(11));
        Check.is(400, more.now(0));
        Check.is(10, late().years(60));
        DebtTable one = late();
        one.years(9);
        Check.is(1, one.years(60));
        Check.refused(0, ActEdgeTest::over, u -> u.years(1));
        Check.refused(0, ActEdgeTest::over, u -> u.years(60));
        Check.refused(NONE, ActEdgeTest::over, u -> u.years(61));
        // other acts go on
        DebtTable last = over();
        Check.is(0, last.borrow(1, 0, 5));
        Check.is(0, last.pay(5, 5));
        Check.is(0, last.forgive(0));
        Check.is(7, last.undo());
    }

    private static DebtTable after(String text, int years) {
        DebtTable t = Check.of(text);
        for (int left = years; left > 0; left -= 60) {
            t.years(Math.min(60, left));
        }
        return t;
    }

    private static void incomes() {
        Check.about("YEAR: its INCOME more, up to 9999 coins");
        String four = "house a 999 30 1;house b 970 30 1;house c 969 30 1;house d 5 0 1;";
        DebtTable t = after(four, 300);
        int[] then = {9999, 9970, 9969, 5};
        int[] next = {9999, 9999, 9999, 5};
        for (int h = 0; h < 4; h++) {
            Check.is(then[h], t.house(h, 0));
        }
        t.years(1);
        for (int h = 0; h < 4; h++) {
            Check.is(next[h], t.house(h, 0));
        }
        t.years(1);
        for (int h = 0; h < 4; h++) {
            Check.is(next[h], t.house(h, 0));
        }
        Check.is(9969, after(four, 299).house(0, 0));
        Check.is(30002, after(four, 400).now(1));
        Check.about("YEAR: who has as many, or more, by payments: none");
        DebtTable u = after("house a 999 30 1;house b 999 30 1;debt b a 100 0;grows 0 1;", 300);
        Check.is(0, u.pay(0, 1));
        Check.is(10000, u.house(0, 0));
        Check.is(9998, u.house(1, 0));
        u.years(1);
        Check.is(10000, u.house(0, 0));
        Check.is(9999, u.house(1, 0));
        u.borrow(1, 0, 1);
        Check.is(9999, u.house(0, 0));
        Check.is(10000, u.house(1, 0));
        u.years(1);
        Check.is(9999, u.house(0, 0));
        Check.is(10000, u.house(1, 0));
        u.pay(0, 2);
        Check.is(10001, u.house(0, 0));
        u.years(1);
        Check.is(10001, u.house(0, 0));
        Check.is(9999, u.house(1, 0));
        // back below: it comes again, and up to 9999 alone
        u.borrow(1, 0, 3);
        Check.is(9998, u.house(0, 0));
        u.years(1);
        Check.is(9999, u.house(0, 0));
        Check.is(10002, u.house(1, 0));
    }

    private static void ages() {
        Check.about("YEAR: each open DEBT is 1 older; one that is not open stays as old as it was");
        DebtTable t = Check.of(TWO + "debt a b 5 99;debt a b 5 0;debt a b 5 7;");
        t.forgive(1);
        t.years(1);
        Check.is(100, t.debt(0, 3));
        Check.is(0, t.debt(1, 3));
        Check.is(8, t.debt(2, 3));
        t.pay(2, 5);
        t.years(60);
        Check.is(160, t.debt(0, 3));
        Check.is(0, t.debt(1, 3));
        Check.is(8, t.debt(2, 3));
        Check.is(499, after(TWO + "debt a b 5 99;", 400).debt(0, 3));
    }

    private static void growing() {
        Check.about("YEAR: if its number is divided by the YEARS of 'grows'");
        int[][] due = {{1, 1, 1}, {2, 1, 0}, {2, 2, 1}, {5, 4, 0}, {5, 5, 1}, {5, 6, 1}, {5, 9, 1}, {5, 10, 2},
            {30, 29, 0}, {30, 30, 1}, {30, 59, 1}, {30, 60, 2}, {30, 389, 12}, {30, 390, 13}, {30, 400, 13},
            {1, 400, 400}, {16, 400, 25}, {7, 400, 57}};
        for (int[] d : due) {
            DebtTable t = after(TWO + "debt a b 3 0;debt b a 1 0;grows 9 " + d[0] + ";", d[1]);
            Check.is(3 + 9 * d[2], t.debt(0, 2));
            Check.is(1 + 9 * d[2], t.debt(1, 2));
        }
        Check.about("YEAR: 'grows' of 0 coins, and without it");
        Check.is(3, after(TWO + "debt a b 3 0;grows 0 1;", 60).debt(0, 2));
        Check.is(3, after(TWO + "debt a b 3 0;", 4).debt(0, 2));
        Check.is(4, after(TWO + "debt a b 3 0;", 5).debt(0, 2));
        Check.is(3800, after(TWO + "debt a b 200 0;grows 9 1;", 400).debt(0, 2));
        Check.about("YEAR: each open DEBT is so many coins more, no other");
        DebtTable t = Check.of(TWO + "debt a b 3 0;debt a b 1 0;grows 9 1;");
        t.pay(0, 3);
        t.years(3);
        Check.is(0, t.debt(0, 2));
        Check.is(28, t.debt(1, 2));
        Check.is(2, t.now(3));
        // the years are counted from the SHIRE on, not from the DEBT
        DebtTable u = after(TWO + "grows 9 5;", 4);
        u.borrow(0, 1, 1);
        u.years(1);
        Check.is(10, u.debt(0, 2));
    }

    // ---- undoing

    private static DebtTable payer() {
        return Check.of(TWO + "debt a b 90 0;");
    }

    private static void undoEight() {
        Check.about("17: 8 at most are kept");
        for (int acts = 0; acts <= 20; acts++) {
            DebtTable t = payer();
            for (int i = 0; i < acts; i++) {
                Check.is(0, t.pay(0, 1));
            }
            int kept = Math.min(8, acts);
            for (int more = kept - 1; more >= 0; more--) {
                Check.is(more, t.undo());
                Check.is(90 - acts + (kept - more), t.debt(0, 2));
            }
            Check.is(NONE, t.undo());
            Check.is(90 - acts + kept, t.debt(0, 2));
            Check.is(acts - kept, t.now(4));
        }
        Check.about("17: an act behind one that was undone");
        DebtTable t = payer();
        t.pay(0, 10);
        t.pay(0, 20);
        Check.is(1, t.undo());
        t.pay(0, 5);
        t.pay(0, 6);
        Check.is(2, t.undo());
        Check.is(1, t.undo());
        Check.is(80, t.debt(0, 2));
        Check.is(0, t.undo());
        Check.is(90, t.debt(0, 2));
        Check.is(NONE, t.undo());
        Check.refused(NONE, ActEdgeTest::payer, u -> u.undo());
        Check.refused(NONE, DebtTable::new, u -> u.undo());
    }

    private static void undoOfRefused() {
        Check.about("17: what was not done is not undone");
        DebtTable t = Check.rich();
        t.pay(4, 1);
        t.pay(0, 21);
        t.pay(2, 12);
        t.pay(0, 0);
        t.borrow(0, 0, 1);
        t.borrow(0, 1, 200);
        t.sell(4, 0);
        t.sell(0, 1);
        t.forgive(4);
        t.forgive(5);
        t.clear(0, 0);
        t.clear(0, 4);
        t.years(0);
        t.years(61);
        t.drawn(0, 1);
        t.drawn(61, 1);
        t.odds(0, 30, 1);
        t.meets(0);
        Check.book(t, 0, "pay 0 1;");
        Check.book(t, 1, "");
        Check.book(t, 1, "pay 4 1;pay 0 1;");
        Check.book(t, 1, "pay 0 1;x;");
        Check.book(t, 2, "pay 0 1;");
        Check.sentence(t, "free");
        Check.shire(t, "x");
        t.image(1);
        t.restore(2);
        Check.is(2, t.undo());
        Check.is(5, t.debt(4, 2));
        Check.is(3, t.now(0));
        Check.is(1, t.undo());
        Check.is(0, t.now(0));
        Check.is(0, t.undo());
        Check.is(0, t.now(4));
        Check.is(NONE, t.undo());
        Check.about("17: years() and drawn() of 0");
        DebtTable u = over();
        u.years(60);
        u.drawn(60, 3);
        Check.is(7, u.undo());
        Check.is(390, u.now(0));
    }

    private static void undone(Check.Act act) {
        Check.Maker maker = () -> {
            DebtTable t = Check.of(Check.THREE + "house yew 0 3 2;");
            t.years(2);
            t.pay(1, 5);
            return t;
        };
        DebtTable without = maker.make();
        DebtTable with = maker.make();
        Check.is(true, act.on(with) != NONE);
        Check.is(2, with.undo());
        // as many are kept as ahead of the act, and all is as it was
        Check.isText(Tale.ofState(without), Tale.ofState(with));
    }

    private static void undoOfEach() {
        Check.about("17: each act, undone");
        undone(t -> t.pay(0, 20));
        undone(t -> t.pay(2, 1));
        undone(t -> t.borrow(3, 2, 9));
        undone(t -> t.sell(0, 2));
        undone(t -> t.forgive(1));
        undone(t -> t.clear(1, 3));
        undone(t -> t.clear(3, 1));
        undone(t -> t.years(1));
        undone(t -> t.years(60));
        undone(t -> t.drawn(1, 4));
        undone(t -> t.drawn(60, -9));
        undone(t -> Check.book(t, 1, "pay 0 1;yew borrows 3 oak;year 60;sell 0 oak;forgive 2;") + 2);
        undone(t -> Check.book(t, 1, "clear 1 3;clear 1 3;"));
        Check.about("17: one call is undone, however many YEARS or LINES");
        DebtTable t = payer();
        t.years(60);
        Check.book(t, 1, "year 5;".repeat(40));
        t.drawn(60, 1);
        Check.is(320, t.now(0));
        Check.is(2, t.undo());
        Check.is(260, t.now(0));
        Check.is(1, t.undo());
        Check.is(60, t.now(0));
        Check.is(0, t.undo());
        Check.is(0, t.now(0));
    }

    private static void undoAhead() {
        Check.about("17: what is undone are acts of this SHIRE");
        DebtTable t = Check.rich();
        Check.is(2, Check.shire(t, TWO));
        Check.is(NONE, t.undo());
        Check.is(2, t.count(0));
        DebtTable u = Check.rich();
        Check.is(-1, Check.shire(u, "x"));
        Check.is(2, u.undo());
        Check.about("17: the SENTENCE, and what was told last, stays");
        DebtTable v = Check.rich();
        v.undo();
        Check.is(2, v.said(NONE));
        Check.is(1, v.told(1));
        Check.is(3, v.ringAt(0) + v.ringAt(1) + v.ringAt(2));
        Check.is(4, v.count(4));
        Check.is(1, v.fault());
    }

    // ---- draws

    private static void drawnNumbers() {
        Check.about("31: n is 1 to 60");
        Check.refused(NONE, t -> t.drawn(0, 1));
        Check.refused(NONE, t -> t.drawn(61, 1));
        for (int far : FAR) {
            Check.refused(NONE, t -> t.drawn(far, 1));
        }
        Check.is(1, Check.rich().drawn(1, 1));
        Check.is(60, Check.rich().drawn(60, 1));
        Check.about("31: any seed");
        for (int seed : new int[] {0, -1, Integer.MIN_VALUE, Integer.MAX_VALUE}) {
            drawnIs(Check.THREE, 9, seed);
        }
    }

    private static int draw(int[] x, int n) {
        x[0] = x[0] * 1103515245 + 12345;
        return (x[0] >>> 8) % n;
    }

    /** What drawn() does, by the acts themselves. */
    private static void drawByActs(DebtTable t, int years, int seed) {
        int[] x = {seed};
        for (int year = 0; year < years; year++) {
            for (int h = 0; h < t.count(0); h++) {
                int act = draw(x, 6);
                if (act == 0) {
                    int lender = draw(x, t.count(0));
                    t.borrow(h, lender, draw(x, 20) + 1);
                } else if ((act == 1 || act == 2) && t.count(1) > 0) {
                    int d = draw(x, t.count(1));
                    t.pay(d, draw(x, 20) + 1);
                } else if (act == 3 && t.count(1) > 0) {
                    t.sell(draw(x, t.count(1)), h);
                }
            }
            t.years(1);
        }
    }

    private static void drawnIs(String text, int years, int seed) {
        DebtTable t = Check.of(text);
        DebtTable u = Check.of(text);
        drawByActs(u, years, seed);
        Check.is(years, t.drawn(years, seed));
        for (int what = 0; what < 7; what++) {
            Check.is(u.now(what), t.now(what));
        }
        for (int h = 0; h < t.count(0); h++) {
            Check.is(u.house(h, 0), t.house(h, 0));
        }
        Check.is(u.count(1), t.count(1));
        for (int d = 0; d < t.count(1); d++) {
            for (int what = 0; what < 5; what++) {
                Check.is(u.debt(d, what), t.debt(d, what));
            }
        }
    }

    private static void drawnEdges() {
        for (int seed = 0; seed < 200; seed++) {
            Check.about("DRAWN: there is no DEBT: no more draws");
            drawnIs("house a 90 1 1;house b 90 1 1;house c 90 1 1;", 3, seed);
            Check.about("DRAWN: one HOUSE: it borrows of nobody");
            drawnIs("house a 9 1 1;", 3, seed);
            Check.about("DRAWN: 12 DEBTS, no coins, nothing that can be");
            drawnIs("house a 0 0 1;house b 0 0 1;" + "debt a b 5 0;".repeat(12), 3, seed);
            drawnIs(TWO + "debt a b 5 0;debt b a 25 0;".repeat(6), 3, seed);
            Check.about("DRAWN: six HOUSES");
            drawnIs(SIX + "debt a b 1 0;debt c d 1 0;", 3, seed);
        }
        Check.about("DRAWN: no HOUSES: no draws");
        drawnIs("", 60, 1);
    }

    private static void drawnLastYear() {
        Check.about("31: how many went by, towards the YEAR 400");
        Check.is(10, late().drawn(10, 5));
        DebtTable t = late();
        Check.is(10, t.drawn(11, 5));
        Check.is(400, t.now(0));
        DebtTable one = late();
        one.years(9);
        Check.is(1, one.drawn(60, 5));
        Check.refused(0, ActEdgeTest::over, u -> u.drawn(1, 5));
        Check.refused(0, ActEdgeTest::over, u -> u.drawn(60, 5));
        // as many as are left are the same as all
        DebtTable u = late();
        u.drawn(10, 77);
        DebtTable v = late();
        v.drawn(60, 77);
        Check.isText(Tale.of(u), Tale.of(v));
    }

    private static void oddsNumbers() {
        Check.about("32: n is 1 to 30");
        Check.refused(NONE, t -> t.odds(0, 0, 1));
        Check.refused(NONE, t -> t.odds(0, 31, 1));
        Check.about("32: no such HOUSE");
        Check.refused(NONE, t -> t.odds(3, 1, 1));
        for (int far : FAR) {
            Check.refused(NONE, t -> t.odds(0, far, 1));
            Check.refused(NONE, t -> t.odds(far, 1, 1));
        }
        Check.refused(NONE, DebtTable::new, t -> t.odds(0, 1, 1));
        Check.about("32: it changes nothing");
        Check.refused(30, () -> brokeForever(), t -> t.odds(0, 30, 1));
        Check.refused(1, () -> brokeForever(), t -> t.odds(0, 1, 1));
        Check.refused(0, () -> brokeForever(), t -> t.odds(2, 30, 1));
        Check.about("32: seeds x, x and 1, .. wrapping");
        oddsBySeeds(Integer.MAX_VALUE - 4, 10);
        oddsBySeeds(Integer.MAX_VALUE, 2);
        oddsBySeeds(-3, 7);
        oddsBySeeds(5, 1);
        oddsBySeeds(5, 30);
    }

    /** Owes 2400, of which twenty years of draws can take no more than a part. */
    private static DebtTable brokeForever() {
        return Check.of("house a 0 0 1;house b 0 0 1;house c 99 0 1;" + "debt a b 200 0;".repeat(12));
    }

    private static void oddsBySeeds(int seed, int n) {
        String text = "house a 20 1 1;house b 20 2 1;house c 20 0 1;debt a b 25 4;debt b c 16 4;";
        for (int h = 0; h < 3; h++) {
            int broke = 0;
            for (int i = 0; i < n; i++) {
                DebtTable u = Check.of(text);
                u.drawn(20, seed + i);
                broke += u.now(5) >> h & 1;
            }
            Check.is(broke, Check.of(text).odds(h, n, seed));
        }
    }

    private static void oddsYears() {
        Check.about("32: behind 20 YEARS, fewer, if fewer are left");
        for (int year : new int[] {0, 379, 380, 381, 399, 400}) {
            DebtTable t = after("house a 0 1 1;house b 20 2 1;debt a b 25 4;grows 9 1;", year);
            int broke = 0;
            for (int i = 0; i < 5; i++) {
                DebtTable u = after("house a 0 1 1;house b 20 2 1;debt a b 25 4;grows 9 1;", year);
                Check.is(Math.min(20, 400 - year), u.drawn(20, i));
                broke += u.now(5) & 1;
            }
            Check.is(broke, t.odds(0, 5, 0));
            Check.is(year, t.now(0));
        }
        // 19 years and 21 would answer otherwise: it comes to owe more in the year 20 alone, or no more then
        DebtTable grows = Check.of("house a 999 0 1;house b 0 0 1;" + "debt a b 83 0;".repeat(12) + "grows 1 20;");
        int broke = 0;
        for (int i = 0; i < 30; i++) {
            DebtTable u = Check.of("house a 999 0 1;house b 0 0 1;" + "debt a b 83 0;".repeat(12) + "grows 1 20;");
            u.drawn(20, i);
            broke += u.now(5) & 1;
        }
        Check.is(true, broke > 0);
        Check.is(broke, grows.odds(0, 30, 0));
    }

    // ---- BOOKS

    private static void bookLives() {
        Check.about("33: -1000: another lives (the tape stays)");
        for (int lives : new int[] {2, -1, 3, -1000, Integer.MIN_VALUE, Integer.MAX_VALUE}) {
            Check.refused(-1000, t -> t.book(lives));
        }
        DebtTable t = payer();
        Check.put(t, "pay 0 7;");
        Check.is(-1000, t.book(2));
        Check.is(8, t.count(4));
        Check.is(NONE, t.book(1));
        Check.is(7, t.now(4));
        Check.is(0, t.count(4));
        Check.about("33: it is judged, all staying as it is (lives 0)");
        DebtTable judged = Check.rich();
        DebtTable without = Check.rich();
        Check.is(2, Check.book(judged, 0, "pay 0 1;year 60;clear 0 0;"));
        Check.is(42, judged.told(0));
        Check.is(2, judged.told(1));
        Check.is(63, judged.told(2));
        Check.isText(Tale.ofState(without), Tale.ofState(judged));
    }

    private static void bookWrong() {
        Check.about("33: the LINE that is WRONG; NONE: none");
        for (int wrong = 0; wrong <= 40; wrong++) {
            DebtTable t = payer();
            String text = "pay 0 1;".repeat(wrong) + (wrong < 40 ? "pay 1 1;" : "") + "pay 0 1;".repeat(
                    Math.max(0, 39 - wrong));
            Check.is(wrong < 40 ? wrong : NONE, Check.book(t, 1, text));
            Check.is(wrong, t.now(4));
            Check.is(wrong, t.told(1));
            Check.is(wrong < 40 ? 9 : 0, t.told(0));
            Check.is(wrong == 0 ? NONE : 0, t.undo());
        }
        DebtTable t = payer();
        Check.is(NONE, Check.book(t, 1, ""));
        Check.is(0, t.told(0));
        Check.is(0, t.told(1));
        Check.is(NONE, t.undo());
    }

    private static void why(int due, String text) {
        DebtTable t = Check.rich();
        int answer = Check.book(t, 0, text);
        Check.is(due, t.told(0));
        Check.is(due == 0, answer == NONE);
    }

    private static void bookReasons() {
        Check.about("34: 1 to 3 as for paying, 9: no such DEBT, ahead of all others");
        why(0, "pay 0 20;");
        why(1, "pay 4 1;");
        why(1, "pay 4 999;");
        why(2, "pay 0 21;");
        why(2, "pay 2 999;");
        why(3, "pay 2 12;");
        why(3, "pay 2 11;");
        why(0, "pay 2 10;");
        why(9, "pay 5 1;");
        why(9, "pay 11 999;");
        Check.about("34: 11, 12 borrowing");
        why(0, "ash borrows 10 elm;");
        why(12, "ash borrows 11 elm;");
        why(0, "elm borrows 1 ash;".repeat(7));
        why(11, "elm borrows 1 ash;".repeat(8));
        why(11, "elm borrows 1 ash;".repeat(7) + "elm borrows 200 ash;");
        Check.about("34: 21 to 24 selling, 29");
        why(0, "sell 0 oak;");
        why(21, "sell 4 oak;");
        why(21, "sell 4 ash;");
        why(22, "sell 0 elm;");
        why(23, "sell 0 ash;");
        why(24, "pay 2 3;sell 3 elm;");
        why(0, "pay 2 2;sell 3 elm;");
        why(29, "sell 5 ash;");
        why(29, "sell 11 elm;");
        Check.about("34: 31 forgiving, 39");
        why(0, "forgive 0;");
        why(31, "forgive 4;");
        why(39, "forgive 5;");
        why(39, "forgive 11;");
        Check.about("34: 41, 42 clearing, 49");
        why(0, "clear 1 3;");
        why(41, "clear 4 3;");
        why(41, "clear 3 4;");
        why(41, "clear 4 4;");
        why(42, "clear 0 0;");
        why(42, "clear 0 3;");
        why(49, "clear 5 0;");
        why(49, "clear 0 5;");
        why(49, "clear 4 5;");
        why(49, "clear 5 4;");
        why(49, "clear 5 5;");
        Check.about("33: DEBTS that the BOOK itself makes");
        why(9, "pay 5 1;elm borrows 1 ash;");
        why(0, "elm borrows 1 ash;pay 5 1;");
        why(1, "elm borrows 1 ash;pay 5 1;pay 5 1;");
        why(9, "elm borrows 1 ash;pay 6 1;");
    }

    private static void bookYears() {
        Check.about("34: 51: fewer YEARS are left");
        for (int n = 1; n <= 60; n++) {
            DebtTable t = late();
            Check.is(n <= 10 ? NONE : 0, Check.book(t, 1, "year " + n + ";"));
            Check.is(n <= 10 ? 0 : 51, t.told(0));
            Check.is(n <= 10 ? 390 + n : 390, t.told(2));
            // none of its YEARS goes by, if fewer are left
            Check.is(n <= 10 ? 390 + n : 390, t.now(0));
        }
        DebtTable t = late();
        Check.is(1, Check.book(t, 1, "year 10;year 1;"));
        Check.is(51, t.told(0));
        Check.is(400, t.told(2));
        Check.is(400, t.now(0));
    }

    private static void told() {
        Check.about("34: NONE: another what, or ahead of any");
        DebtTable t = payer();
        for (int what = -1; what < 5; what++) {
            Check.is(NONE, t.told(what));
        }
        Check.book(t, 0, "x");
        Check.book(t, 2, "");
        Check.is(NONE, t.told(0));
        Check.book(t, 0, "");
        int[] due = {0, 0, 0, 90};
        for (int what = 0; what < 4; what++) {
            Check.is(due[what], t.told(what));
        }
        Check.is(NONE, t.told(-1));
        Check.is(NONE, t.told(4));
        for (int far : FAR) {
            Check.is(NONE, t.told(far));
        }
        Check.about("34: of the latest book() that had no FAULT (and was not -1000)");
        Check.book(t, 0, "pay 0 4;year 5;pay 0 99;");
        int[] wrong = {2, 2, 5, 87};
        for (int again = 0; again < 4; again++) {
            for (int what = 0; what < 4; what++) {
                Check.is(wrong[what], t.told(what));
            }
            if (again == 0) {
                Check.book(t, 1, "pay 0 4;x;");
            } else if (again == 1) {
                Check.book(t, 7, "pay 0 4;");
            } else {
                t.pay(0, 9);
                Check.shire(t, TWO);
            }
        }
        Check.is(NONE, Check.book(t, 1, "year 1;"));
        int[] anew = {0, 1, 1, 0};
        for (int what = 0; what < 4; what++) {
            Check.is(anew[what], t.told(what));
        }
    }

    // ---- images

    private static void imageNumbers() {
        Check.about("37: false: no such place");
        Check.refused(0, t -> t.image(2) ? 1 : 0);
        for (int far : FAR) {
            Check.refused(0, t -> t.image(far) ? 1 : 0);
        }
        Check.is(true, new DebtTable().image(0));
        Check.is(true, new DebtTable().image(1));
    }

    private static void restoreNumbers() {
        Check.about("38: false: no such place, or nothing is kept there");
        Check.refused(0, t -> t.restore(2) ? 1 : 0);
        Check.refused(0, t -> t.restore(1) ? 1 : 0);
        for (int far : FAR) {
            Check.refused(0, t -> t.restore(far) ? 1 : 0);
        }
        Check.refused(0, DebtTable::new, t -> t.restore(0) ? 1 : 0);
        Check.refused(0, DebtTable::new, t -> t.restore(1) ? 1 : 0);
        DebtTable t = new DebtTable();
        t.image(1);
        Check.is(false, t.restore(0));
        Check.is(true, t.restore(1));
    }

    private static void images() {
        Check.about("37, 38: SHIRE, all that is so and the SENTENCE");
        DebtTable t = Check.rich();
        Check.is(true, t.image(1));
        Check.shire(t, SIX);
        Check.sentence(t, "number=5");
        t.drawn(60, 3);
        t.feed(1, 2, 3, 4, 5);
        Check.is(true, t.restore(1));
        Check.is(20, t.count(4));
        Check.is(0, t.fault());
        DebtTable same = Check.rich();
        same.image(1);
        for (int i = 0; i < 3; i++) {
            // what was kept can't be undone, so on the other one it is not looked at either
            same.undo();
        }
        Check.is(true, same.restore(1));
        Check.isText(Tale.of(same), Tale.of(t));
        Check.about("37, 38: the SENTENCE, and that there is none");
        DebtTable said = Check.of(SIX);
        said.image(0);
        Check.sentence(said, "number=1 or number=3 and not free or number>4");
        said.image(1);
        Check.sentence(said, "free");
        Check.is(true, said.restore(1));
        Check.is(2, said.said(NONE));
        Check.is(1, said.said(0));
        Check.is(5, said.said(1));
        Check.is(true, said.restore(0));
        Check.is(NONE, said.said(NONE));
        Check.sentence(said, "number<3");
        Check.shire(said, TWO);
        Check.is(true, said.restore(1));
        Check.is(2, said.said(NONE));
        Check.is(5, said.said(1));
        Check.about("38: nothing can be undone");
        DebtTable u = Check.rich();
        Check.is(true, u.restore(0));
        Check.is(NONE, u.undo());
        Check.is(0, u.pay(0, 1));
        Check.is(0, u.undo());
        Check.is(NONE, u.undo());
        Check.about("38: the tape, and what other calls told last, stays");
        DebtTable v = Check.rich();
        v.restore(0);
        Check.is(4, v.count(4));
        Check.is(1, v.fault());
        Check.is(1, v.told(1));
        Check.is(1, v.ask());
        Check.is('a', v.byteAt(0));
        Check.is(3, v.ringAt(0) + v.ringAt(1) + v.ringAt(2));
        Check.is(NONE, v.said(NONE));
        Check.about("37: the two places, taken again");
        DebtTable w = payer();
        w.image(0);
        w.pay(0, 1);
        w.image(1);
        w.pay(0, 1);
        Check.is(true, w.restore(0));
        Check.is(90, w.debt(0, 2));
        Check.is(true, w.restore(1));
        Check.is(89, w.debt(0, 2));
        w.forgive(0);
        w.image(0);
        w.restore(1);
        Check.is(89, w.debt(0, 2));
        w.restore(0);
        Check.is(0, w.debt(0, 2));
        w.restore(1);
        w.restore(1);
        Check.is(89, w.debt(0, 2));
    }
}
