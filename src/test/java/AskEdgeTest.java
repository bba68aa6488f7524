/**
 * The bounds that the document names in part 3 of its terms and in the promises on what is asked: of each the value
 * just inside and the one just outside, the empty and the full shire, and that what is asked changes nothing.
 */
public final class AskEdgeTest {
    private static final int NONE = DebtTable.NONE;
    private static final int[] FAR = {Integer.MIN_VALUE, Integer.MAX_VALUE, -2, -1, 1 << 16};
    private static final String TWO = Check.TWO;
    private static final String SIX = Check.SIX;

    private AskEdgeTest() { }

    public static void main(String[] args) {
        houseNumbers();
        house();
        worth();
        debtNumbers();
        older();
        atNumbers();
        chairs();
        now();
        rings();
        top();
        ableNumbers();
        able();
        meetsNumbers();
        meets();
        meetsBeyond();
        ringNumbers();
        ring();
        ringAt();
        settle();
        whichTape();
        which();
        ask();
        fullest();
        meanNumbers();
        mean();
        lineNumbers();
        line();
        byteAt();
        saidNumbers();
        said();
        saidJoined();
        saidMeasures();
        count();
        Check.end();
    }

    private static DebtTable full() {
        return Check.of("house a 999 30 6;house b 0 0 1;house c 1 1 1;house d 1 1 1;house e 1 1 1;house f 1 1 1;"
                + "debt a b 200 99;".repeat(12));
    }

    // ---- houses

    private static void houseNumbers() {
        Check.about("6: NoSuchElementException: no such HOUSE");
        for (int what = 0; what < 7; what++) {
            int fact = what;
            Check.refused(Check.THROWS, t -> t.house(3, fact));
            Check.refused(Check.THROWS, t -> t.house(-1, fact));
            Check.refused(Check.THROWS, DebtTable::new, t -> t.house(0, fact));
        }
        for (int far : FAR) {
            Check.refused(Check.THROWS, t -> t.house(far, 0));
        }
        Check.is(1, full().house(5, 0));
        Check.isNoSuchElement(() -> full().house(6, 0));
        Check.about("6: NoSuchElementException: no such what");
        Check.refused(Check.THROWS, t -> t.house(0, 7));
        for (int far : FAR) {
            Check.refused(Check.THROWS, t -> t.house(0, far));
        }
        Check.refused(Check.THROWS, t -> t.house(3, 7));
    }

    private static void facts(DebtTable t, int h, int... due) {
        for (int what = 0; what < due.length; what++) {
            Check.is(due[what], t.house(h, what));
        }
    }

    private static void house() {
        Check.about("6: a HOUSE with all the DEBTS there can be, and one with none");
        facts(full(), 0, 999, 30, 6, 2400, 0, 4095, 6);
        facts(full(), 1, 0, 0, 1, 0, 2400, 0, 0);
        facts(full(), 5, 1, 1, 1, 0, 0, 0, 0);
        Check.about("6: open DEBTS alone, as bits; how many of these stand");
        for (int open = 12; open >= 0; open--) {
            DebtTable t = full();
            for (int d = 0; d < 12 - open; d++) {
                t.forgive(d);
            }
            facts(t, 0, 999, 30, 6, 200 * open, 0, 4095 >> 12 - open << 12 - open, Math.max(0, open - 6));
        }
    }

    private static void worth() {
        Check.about("7: NoSuchElementException: no such one");
        Check.refused(Check.THROWS, t -> t.worth(3));
        for (int far : FAR) {
            Check.refused(Check.THROWS, t -> t.worth(far));
        }
        Check.refused(Check.THROWS, DebtTable::new, t -> t.worth(0));
        Check.isNoSuchElement(() -> full().worth(6));
        Check.about("7: its coins, what is owed to it, less what it owes");
        Check.is(999 - 2400, full().worth(0));
        Check.is(2400, full().worth(1));
        Check.is(1, full().worth(5));
        Check.is(0, Check.of("house a 7 0 1;house b 0 0 1;debt a b 7 0;").worth(0));
    }

    // ---- debts and tables

    private static void debtNumbers() {
        Check.about("8: NONE, too: no such ones");
        for (int what = 0; what < 5; what++) {
            int fact = what;
            Check.refused(NONE, t -> t.debt(5, fact));
            Check.is(NONE, full().debt(12, what));
            Check.is(NONE, new DebtTable().debt(0, what));
            for (int far : FAR) {
                Check.is(NONE, full().debt(far, what));
            }
        }
        Check.refused(NONE, t -> t.debt(0, 5));
        for (int far : FAR) {
            Check.refused(NONE, t -> t.debt(0, far));
        }
        int[] due = {0, 1, 200, 99, 11};
        for (int what = 0; what < 5; what++) {
            Check.is(due[what], full().debt(11, what));
        }
        Check.about("8: coins left 0, its CHAIR NONE: it is not open");
        DebtTable t = full();
        t.forgive(3);
        int[] closed = {0, 1, 0, 99, NONE};
        for (int what = 0; what < 5; what++) {
            Check.is(closed[what], t.debt(3, what));
        }
        Check.is(2, t.debt(2, 4));
        Check.is(3, t.debt(4, 4));
        Check.is(10, t.debt(11, 4));
    }

    private static void older() {
        Check.about("OLDER: of more AGE, of like AGE that of the lesser number");
        DebtTable t = Check.of("house a 9 0 6;house b 9 0 1;debt a b 1 5;debt a b 1 6;debt a b 1 5;debt a b 1 4;"
                + "debt a b 1 6;debt b a 1 99;");
        int[] chairs = {2, 0, 3, 4, 1, 0};
        for (int d = 0; d < 6; d++) {
            Check.is(chairs[d], t.debt(d, 4));
        }
        int[] seats = {1, 4, 0, 2, 3, NONE};
        for (int k = 0; k < 6; k++) {
            Check.is(seats[k], t.at(0, k));
        }
        // one that is closed grows no older: it is not in the way, and another is open that was borrowed since
        t.pay(1, 1);
        t.years(1);
        t.borrow(0, 1, 1);
        Check.is(4, t.at(0, 0));
        Check.is(6, t.at(0, 4));
        Check.is(NONE, t.at(0, 5));
    }

    private static void atNumbers() {
        Check.about("9: NONE: no such ones");
        Check.refused(NONE, t -> t.at(3, 0));
        Check.refused(NONE, t -> t.at(0, 2));
        for (int far : FAR) {
            Check.refused(NONE, t -> t.at(far, 0));
            Check.refused(NONE, t -> t.at(0, far));
        }
        Check.refused(NONE, DebtTable::new, t -> t.at(0, 0));
        Check.is(NONE, full().at(6, 0));
    }

    private static void chairs() {
        Check.about("9: they sit as far as there are CHAIRS; others stand");
        for (int chairs = 1; chairs <= 6; chairs++) {
            for (int debts = 0; debts <= 12; debts++) {
                DebtTable t = Check.of("house a 0 0 " + chairs + ";house b 0 0 1;" + "debt a b 1 0;".repeat(debts));
                for (int k = 0; k < 13; k++) {
                    Check.is(k < chairs && k < debts ? k : NONE, t.at(0, k));
                }
                Check.is(Math.max(0, debts - chairs), t.house(0, 6));
                // those who stand are counted on
                for (int d = 0; d < debts; d++) {
                    Check.is(d, t.debt(d, 4));
                }
            }
        }
        Check.about("9: those behind move up");
        DebtTable t = Check.of("house a 9 0 1;house b 0 0 1;debt a b 3 9;debt a b 4 5;");
        Check.is(0, t.at(0, 0));
        t.pay(0, 2);
        Check.is(0, t.at(0, 0));
        t.pay(0, 1);
        Check.is(1, t.at(0, 0));
        t.pay(1, 4);
        Check.is(NONE, t.at(0, 0));
    }

    private static void now() {
        Check.about("10: NONE for another what");
        Check.refused(NONE, t -> t.now(7));
        for (int far : FAR) {
            Check.refused(NONE, t -> t.now(far));
        }
        Check.about("10: an empty SHIRE and a full one");
        int[] full = {0, 1003, 2400, 4095, 0, 1, 0};
        for (int what = 0; what < 7; what++) {
            Check.is(0, new DebtTable().now(what));
            Check.is(full[what], full().now(what));
        }
        Check.about("10: broke: it owes more than it has");
        for (int coins = 9; coins <= 11; coins++) {
            DebtTable t = Check.of("house b 0 0 1;house a " + coins + " 0 1;debt a b 4 0;debt a b 6 0;");
            Check.is(coins < 10 ? 2 : 0, t.now(5));
        }
        Check.is(0, Check.of("house a 0 0 1;").now(5));
        Check.about("10: coins that were PAID so far (not those of DEBTS that were SOLD or BORROWED)");
        DebtTable t = Check.of(TWO + "house c 50 0 1;debt a b 20 0;");
        t.borrow(0, 1, 7);
        t.sell(0, 2);
        t.forgive(1);
        Check.is(0, t.now(4));
        t.pay(0, 1);
        Check.is(1, t.now(4));
        t.pay(0, 19);
        Check.is(20, t.now(4));
        t.pay(0, 1);
        Check.is(20, t.now(4));
        Check.book(t, 0, "a borrows 9 b;pay 2 9;");
        Check.is(20, t.now(4));
        Check.book(t, 1, "a borrows 9 b;pay 2 8;");
        Check.is(28, t.now(4));
        t.undo();
        Check.is(20, t.now(4));
        Check.is(0, Check.shire(t, "") + t.now(4));
    }

    private static void rings() {
        Check.about("10: HOUSES in RINGS, as bits");
        DebtTable six = Check.of(SIX + "debt a b 1 0;debt b c 1 0;debt c d 1 0;debt d e 1 0;debt e f 1 0;"
                + "debt f a 1 0;");
        Check.is(63, six.now(6));
        six.forgive(5);
        Check.is(0, six.now(6));
        Check.is(48, Check.of(SIX + "debt a b 1 0;debt b e 1 0;debt e f 1 0;debt f e 1 0;debt f c 1 0;").now(6));
        Check.is(0, Check.of(TWO + "debt a b 1 0;debt a b 1 0;").now(6));
    }

    // ---- top, able

    private static void top() {
        Check.about("18: NONE: it is not open, no such one");
        Check.refused(NONE, t -> t.top(4));
        Check.refused(NONE, t -> t.top(5));
        for (int far : FAR) {
            Check.refused(NONE, t -> t.top(far));
        }
        Check.refused(NONE, DebtTable::new, t -> t.top(0));
        Check.is(NONE, full().top(12));
        Check.about("18: 0: it sits there; what all OLDER open ones come to");
        for (int d = 0; d < 12; d++) {
            Check.is(200 * d, full().top(d));
        }
        DebtTable t = Check.of(TWO + "debt a b 3 5;debt a b 4 6;debt a b 5 5;debt b a 99 99;");
        int[] due = {4, 0, 7, 0};
        for (int d = 0; d < 4; d++) {
            Check.is(due[d], t.top(d));
        }
        // one that is closed costs nothing, though it was older
        t.forgive(1);
        Check.is(0, t.top(0));
        Check.is(3, t.top(2));
        t.pay(0, 2);
        Check.is(1, t.top(2));
    }

    private static void ableNumbers() {
        Check.about("19: NONE: no such one");
        Check.refused(NONE, t -> t.able(3));
        for (int far : FAR) {
            Check.refused(NONE, t -> t.able(far));
        }
        Check.refused(NONE, DebtTable::new, t -> t.able(0));
        Check.about("20: NONE ahead of any; by the latest able() that was not NONE");
        DebtTable t = full();
        Check.is(NONE, t.ableOf());
        t.able(6);
        t.able(-1);
        Check.is(NONE, t.ableOf());
        Check.is(0, t.able(1));
        Check.is(0, t.ableOf());
        Check.is(4, t.able(0));
        Check.is(15, t.ableOf());
        Check.is(NONE, t.able(6));
        Check.is(15, t.ableOf());
        // what is so since then is no matter
        t.forgive(0);
        Check.is(15, t.ableOf());
        Check.shire(t, "");
        Check.is(15, t.ableOf());
    }

    private static void ableOf(int coins, String sums, int count, int bits) {
        StringBuilder sb = new StringBuilder("house a " + coins + " 0 1;house b 0 0 1;");
        for (String sum : sums.split(" ")) {
            sb.append("debt a b ").append(sum).append(" 0;");
        }
        DebtTable t = Check.of(sb.toString());
        Check.is(count, t.able(0));
        Check.is(bits, t.ableOf());
    }

    private static void able() {
        Check.about("ABLE: that it can pay off whole by its coins");
        ableOf(9, "10", 0, 0);
        ableOf(10, "10", 1, 1);
        ableOf(0, "1", 0, 0);
        ableOf(11, "5 6", 2, 3);
        ableOf(10, "5 6", 1, 1);
        ableOf(999, "1 2 3 4 5 6 7 8 9 10 11 12", 12, 4095);
        ableOf(78, "1 2 3 4 5 6 7 8 9 10 11 12", 12, 4095);
        ableOf(77, "1 2 3 4 5 6 7 8 9 10 11 12", 11, 2047);
        Check.about("ABLE: of as many those that cost least in all");
        ableOf(10, "10 9 8", 1, 4);
        ableOf(20, "11 10 9 8", 2, 12);
        ableOf(100, "70 60 40 30", 2, 12);
        Check.about("ABLE: then the least as bits");
        ableOf(5, "5 5 5", 1, 1);
        ableOf(9, "6 3 6 3 3", 3, 26);
        ableOf(11, "5 5 5 1", 3, 11);
        ableOf(10, "5 5 5 1", 2, 9);
        ableOf(6, "5 1 5 1 5", 2, 10);
        Check.about("ABLE: its open DEBTS, those of no other HOUSE");
        DebtTable t = Check.of(TWO + "debt b a 1 0;debt a b 2 0;debt a b 3 0;");
        t.forgive(1);
        Check.is(1, t.able(0));
        Check.is(4, t.ableOf());
        // what is left of each
        t.pay(2, 2);
        t.borrow(1, 0, 97);
        Check.is(1, t.house(0, 0));
        Check.is(1, t.able(0));
        t.borrow(1, 0, 1);
        Check.is(0, t.able(0));
        Check.is(0, t.ableOf());
    }

    // ---- meets

    private static void meetsNumbers() {
        Check.about("21: NONE: no such one");
        Check.refused(NONE, t -> t.meets(3));
        for (int far : FAR) {
            Check.refused(NONE, t -> t.meets(far));
        }
        Check.refused(NONE, DebtTable::new, t -> t.meets(0));
        Check.is(NONE, full().meets(6));
        Check.about("21: it changes nothing");
        Check.refused(0, t -> t.meets(1));
        Check.refused(NONE, t -> t.meets(2));
    }

    private static void meets() {
        Check.about("MEETS: 0: it does; as much as it has is not more");
        int[] due = {0, 5, 10, 15};
        for (int coins = 9; coins <= 12; coins++) {
            Check.is(due[coins - 9], Check.of("house a " + coins + " 0 1;house b 0 0 1;debt a b 10 0;").meets(0));
        }
        Check.about("21: NONE: not within 99");
        // it owes 1 more each year: more than it has in as many years as it has coins
        for (int coins = 97; coins <= 101; coins++) {
            DebtTable t = Check.of("house a " + coins + " 0 1;house b 0 0 1;debt a b 1 0;grows 1 1;");
            Check.is(coins <= 99 ? coins : NONE, t.meets(0));
            Check.is(NONE, t.meets(1));
        }
        DebtTable t = Check.of("house a 100 0 1;house b 0 0 1;debt a b 1 0;grows 1 1;");
        t.years(1);
        Check.is(99, t.meets(0));
        Check.about("MEETS: for the first time");
        // in the year 30 it owes 9 more; its income has brought 1 each year since
        DebtTable u = Check.of("house a 0 1 1;house b 0 0 1;debt a b 1 0;grows 9 1;");
        Check.is(0, u.meets(0));
        DebtTable v = Check.of("house a 5 1 1;house b 0 0 1;debt a b 5 0;debt a b 1 0;grows 9 4;");
        Check.is(0, v.meets(0));
        v.pay(1, 1);
        // 4 and 1 a year against 5, and 9 more in the year 4
        Check.is(0, v.meets(0));
        DebtTable w = Check.of("house a 6 1 1;house b 0 0 1;debt a b 5 0;grows 9 4;");
        Check.is(4, w.meets(0));
        Check.about("MEETS: nothing owed");
        Check.is(NONE, Check.of("house a 0 0 1;").meets(0));
        DebtTable x = Check.of("house a 1 0 1;house b 0 0 1;debt a b 1 0;grows 1 1;");
        Check.is(1, x.meets(0));
        x.pay(0, 1);
        Check.is(NONE, x.meets(0));
        Check.is(NONE, Check.of("house a 1 0 1;house b 0 0 1;debt a b 1 0;grows 0 1;").meets(0));
    }

    private static void meetsBeyond() {
        Check.about("21: YEAR 400 no matter");
        for (int year : new int[] {301, 302, 399, 400}) {
            DebtTable t = Check.of("house a 99 0 1;house b 999 0 1;grows 1 1;");
            for (int left = year; left > 0; left -= 60) {
                t.years(Math.min(60, left));
            }
            // 100 coins and one of 1 that grows by 1: in 100 years; with 99 coins in 99
            t.borrow(0, 1, 1);
            Check.is(NONE, t.meets(0));
            t.borrow(1, 0, 1);
            Check.is(99, t.meets(0));
            Check.is(year, t.now(0));
        }
    }

    // ---- rings, settling

    private static void ringNumbers() {
        Check.about("22: NONE: there is none, no such one");
        Check.refused(NONE, t -> t.ring(3));
        for (int far : FAR) {
            Check.refused(NONE, t -> t.ring(far));
        }
        Check.refused(NONE, DebtTable::new, t -> t.ring(0));
        Check.refused(NONE, () -> ringless(), t -> t.ring(0));
        Check.refused(NONE, () -> ringless(), t -> t.ring(1));
        Check.refused(NONE, () -> ringless(), t -> t.ring(3));
    }

    /** a, b, c owe on to a ring of d and e; the latest ring that was asked is d's. */
    private static DebtTable ringless() {
        DebtTable t = Check.of(SIX + "debt a b 1 0;debt b c 1 0;debt c e 1 0;debt d e 1 0;debt e d 1 0;");
        t.ring(3);
        t.forgive(3);
        return t;
    }

    private static void ringIs(DebtTable t, int h, int... due) {
        Check.is(due.length, t.ring(h));
        for (int k = 0; k < due.length; k++) {
            Check.is(due[k], t.ringAt(k));
        }
        Check.is(NONE, t.ringAt(due.length));
    }

    private static void ring() {
        Check.about("RING: the fewest HOUSES");
        ringIs(Check.of(TWO + "debt a b 1 0;debt b a 1 0;"), 0, 0, 1);
        ringIs(Check.of(TWO + "debt a b 1 0;debt b a 1 0;"), 1, 1, 0);
        String round = "debt a b 1 0;debt b c 1 0;debt c d 1 0;debt d e 1 0;debt e f 1 0;debt f a 1 0;";
        ringIs(Check.of(SIX + round), 0, 0, 1, 2, 3, 4, 5);
        ringIs(Check.of(SIX + round), 5, 5, 0, 1, 2, 3, 4);
        ringIs(Check.of(SIX + round + "debt e a 1 0;"), 0, 0, 1, 2, 3, 4);
        ringIs(Check.of(SIX + round + "debt e a 1 0;"), 5, 5, 0, 1, 2, 3, 4);
        ringIs(Check.of(SIX + round + "debt b a 1 0;"), 0, 0, 1);
        Check.about("RING: of like ones the first: HOUSE by HOUSE the least");
        ringIs(Check.of(SIX + "debt a f 1 0;debt f a 1 0;debt a c 1 0;debt c a 1 0;"), 0, 0, 2);
        ringIs(Check.of(SIX + "debt a b 1 0;debt b f 1 0;debt f a 1 0;debt a c 1 0;debt c d 1 0;debt d a 1 0;"), 0,
                0, 1, 5);
        ringIs(Check.of(SIX + "debt a b 1 0;debt b f 1 0;debt f a 1 0;debt b d 1 0;debt d a 1 0;"), 0, 0, 1, 3);
        // b leads on to nothing: it is not taken though it is the least
        ringIs(Check.of(SIX + "debt a b 1 0;debt a f 1 0;debt f e 1 0;debt e a 1 0;debt b c 1 0;"), 0, 0, 5, 4);
        Check.about("RING: each of which owes the next something: open DEBTS");
        DebtTable t = Check.of(TWO + "debt a b 2 0;debt b a 1 0;");
        t.pay(0, 1);
        Check.is(2, t.ring(0));
        t.pay(0, 1);
        Check.is(NONE, t.ring(0));
        Check.is(NONE, t.ring(1));
    }

    private static void ringAt() {
        Check.about("23: NONE: none such, or ahead of any");
        DebtTable t = Check.of(TWO + "debt a b 2 0;debt b a 1 0;");
        for (int k = -1; k < 7; k++) {
            Check.is(NONE, t.ringAt(k));
        }
        t.ring(2);
        Check.is(NONE, t.ringAt(0));
        t.ring(1);
        Check.is(1, t.ringAt(0));
        Check.is(0, t.ringAt(1));
        for (int k : new int[] {2, 3, 5, 6}) {
            Check.is(NONE, t.ringAt(k));
        }
        for (int far : FAR) {
            Check.is(NONE, t.ringAt(far));
        }
        Check.about("23: by the latest ring() that was not NONE");
        t.ring(7);
        t.forgive(0);
        t.ring(0);
        Check.is(1, t.ringAt(0));
        // a shorter one behind a longer one
        DebtTable u = Check.of(SIX + "debt a b 1 0;debt b c 1 0;debt c a 1 0;debt d e 1 0;debt e d 1 0;");
        ringIs(u, 2, 2, 0, 1);
        u.now(6);
        u.settle();
        Check.sentence(u, "ringed");
        u.said(NONE);
        Check.is(2, u.ringAt(0));
        ringIs(u, 3, 3, 4);
    }

    private static void settle() {
        Check.about("24: no HOUSES, one, none with something to pay or get");
        Check.is(0, new DebtTable().settle());
        Check.is(0, Check.of("house a 5 0 1;").settle());
        Check.is(0, Check.of(SIX).settle());
        Check.is(0, Check.of(TWO + "debt a b 9 0;debt b a 9 0;").settle());
        Check.is(0, Check.of(SIX + "debt a b 9 0;debt b c 9 0;debt c a 9 0;").settle());
        Check.about("24: one more than nothing");
        Check.is(1, Check.of(TWO + "debt a b 9 0;debt b a 8 0;").settle());
        Check.is(1, Check.of(SIX + "debt a f 200 0;").settle());
        Check.about("24: sets in which nothing is left over, none in two");
        Check.is(5, Check.of(SIX + "debt f a 1 0;debt f b 2 0;debt f c 4 0;debt f d 8 0;debt f e 16 0;").settle());
        Check.is(4, Check.of(SIX + "debt a c 3 0;debt b c 2 0;debt d f 1 0;debt e f 1 0;").settle());
        Check.is(3, Check.of(SIX + "debt a b 1 0;debt c d 2 0;debt e f 3 0;").settle());
        // -3, -5, -5, 5, 5, 3
        Check.is(3, Check.of(SIX + "debt a f 5 0;debt b f 5 0;debt c f 5 0;debt f d 5 0;debt f e 5 0;debt f a 1 0;"
                + "debt b a 1 0;debt c b 1 0;debt f c 1 0;").settle());
        // 4, 3, -4, -3 are two pairs, though 4, 3 and -7 would be one set
        Check.is(2, Check.of(SIX + "debt c a 4 0;debt d b 3 0;").settle());
        Check.about("24: coins no matter; it changes nothing");
        DebtTable t = Check.of(TWO + "debt a b 9 0;");
        t.borrow(1, 0, 50);
        Check.is(1, t.settle());
        Check.refused(2, u -> u.settle());
    }

    // ---- which, ask

    private static int[] pairs(int n) {
        int[] bytes = new int[2 * n];
        for (int i = 0; i < n; i++) {
            bytes[2 * i] = 0;
            bytes[2 * i + 1] = 0;
        }
        return bytes;
    }

    private static void whichTape() {
        Check.about("25: 1 to 8 pairs");
        for (int n = 0; n <= 10; n++) {
            DebtTable t = Check.of(Check.THREE);
            Check.is(n >= 1 && n <= 8 ? 19 : NONE, Check.which(t, pairs(n)));
            Check.is(0, t.count(4));
        }
        Check.is(NONE, Check.which(Check.of(Check.THREE), pairs(470)));
        Check.about("25: pairs: an odd number of bytes is not as told");
        for (int bytes = 1; bytes <= 17; bytes += 2) {
            Check.is(NONE, Check.which(Check.of(Check.THREE), new int[bytes]));
        }
        Check.about("25: 0 to 4");
        for (int what = 5; what < 256; what++) {
            Check.is(NONE, Check.which(Check.of(Check.THREE), what, 0));
            Check.is(NONE, Check.which(Check.of(Check.THREE), 0, 0, what, 0));
            // though no DEBT is left of the pairs ahead
            Check.is(NONE, Check.which(Check.of(Check.THREE), 0, 9, what, 0));
        }
        int[] last = pairs(8);
        last[14] = 5;
        Check.is(NONE, Check.which(Check.of(Check.THREE), last));
        last[14] = 4;
        Check.is(2, Check.which(Check.of(Check.THREE), last));
        Check.about("25: NONE: all else stays, but the tape");
        textless(NONE, 5, 0);
        textless(NONE, 0);
        textless(NONE, new int[0]);
        textless(0, 0, 9);
    }

    /** The tape is empty then; neither the latest fault nor anything else changes. */
    private static void textless(int due, int... bytes) {
        DebtTable without = Check.rich();
        DebtTable with = Check.rich();
        Check.is(due, Check.which(with, bytes));
        Check.is(0, with.count(4));
        Check.is(without.fault(), with.fault());
        Check.isText(Tale.of(without), Tale.of(with));
    }

    private static void which() {
        Check.about("WHICH: the number of it is a byte");
        DebtTable t = full();
        t.forgive(0);
        Check.is(4094, Check.which(t, 2, 200));
        Check.is(0, Check.which(t, 2, 199));
        Check.is(0, Check.which(t, 2, 0));
        Check.is(4094, Check.which(t, 3, 99));
        Check.is(4094, Check.which(t, 0, 0));
        Check.is(4094, Check.which(t, 1, 1));
        Check.is(0, Check.which(t, 0, 255));
        Check.is(0, Check.which(t, 1, 255));
        // coins and AGES above 255 are told by no byte
        DebtTable old = Check.of("house a 9 0 1;house b 9 0 1;debt a b 55 95;debt b a 54 94;grows 4 1;");
        old.years(50);
        Check.is(255, old.debt(0, 2));
        Check.is(1, Check.which(old, 2, 255));
        Check.is(2, Check.which(old, 2, 254));
        old.years(60);
        old.years(51);
        Check.is(256, old.debt(0, 3));
        Check.is(255, old.debt(1, 3));
        Check.is(0, Check.which(old, 3, 0));
        Check.is(2, Check.which(old, 3, 255));
        Check.is(0, Check.which(old, 2, (55 + 4 * 161) & 255));
        Check.about("WHICH: its CHAIR, those who stand counted on; open DEBTS alone");
        for (int k = 0; k < 11; k++) {
            Check.is(2 << k, Check.which(t, 4, k));
        }
        Check.is(0, Check.which(t, 4, 11));
        Check.is(0, Check.which(t, 4, 255));
        Check.about("WHICH: of which all of that is so");
        DebtTable three = Check.of(Check.THREE);
        Check.is(17, Check.which(three, 0, 0, 1, 1));
        Check.is(16, Check.which(three, 0, 0, 1, 1, 2, 5, 3, 10, 4, 2));
        Check.is(0, Check.which(three, 0, 0, 1, 1, 2, 5, 3, 10, 4, 1));
        Check.is(0, Check.which(three, 2, 5, 2, 20));
        Check.is(0, Check.which(new DebtTable(), 0, 0));
    }

    private static void ask() {
        Check.about("26: NONE ahead of any; by the latest which() above 0");
        DebtTable t = Check.of(Check.THREE);
        Check.is(NONE, t.ask());
        Check.which(t, 5, 0);
        Check.which(t, 0, 9);
        Check.is(NONE, t.ask());
        Check.which(t, 1, 1);
        // 20 of 10 and 5 of 10 at the CHAIRS 1 and 2: coins are the first that differ
        Check.is(2, t.ask());
        Check.which(t, 0, 9);
        Check.which(t, 9, 9);
        Check.which(t, 0);
        Check.is(2, t.ask());
        Check.about("ASK: of like ones the first; of one DEBT all are alike");
        Check.is(16, Check.which(t, 2, 5));
        Check.is(0, t.ask());
        Check.is(17, Check.which(t, 1, 1));
        Check.is(2, t.ask());
        // the most there can be: all twelve
        DebtTable all = full();
        Check.is(4095, Check.which(all, 0, 0));
        Check.is(4, all.ask());
        // the least answer above 0: the DEBT 0 alone
        Check.is(1, Check.which(t, 2, 20));
        Check.is(0, t.ask());
        Check.about("ASK: the greatest number that have one of them is the least");
        // who owes: 3 and 1; to whom: 2 and 2; coins: 4; ages: 3 and 1; chairs: 0 twice, 1, 2
        asks(1, 2, 5, "debt a c 5 7;debt a b 5 7;debt a b 5 7;debt b c 5 9;");
        // chairs: each its own
        asks(4, 2, 5, "debt a c 5 7;debt a b 5 7;debt a b 5 7;debt a c 5 9;");
        // who owes: 2, 1, 1; to whom: 2, 1, 1; coins: 2 and 2; chairs: 0 three times, 1
        asks(0, 3, 0, "debt a b 5 0;debt b a 5 0;debt c a 6 0;debt a c 6 0;");
        // ages: each its own; all else 2 and 2
        asks(3, 1, 2, "debt a c 5 0;debt b c 5 1;debt a c 6 2;debt b c 6 3;");
        // coins, too
        asks(2, 1, 2, "debt a c 5 0;debt b c 6 1;debt a c 7 2;debt b c 8 3;");
    }

    /** What to ask of four DEBTS that are alike in one thing, by which which() finds them all. */
    private static void asks(int due, int alike, int number, String debts) {
        DebtTable t = Check.of("house a 9 0 1;house b 9 0 1;house c 9 0 1;" + debts);
        Check.is(15, Check.which(t, alike, number));
        Check.is(due, t.ask());
    }

    // ---- fullest, mean

    private static void fullest() {
        Check.about("27: NONE: there are no HOUSES");
        Check.is(NONE, new DebtTable().fullest());
        Check.about("27: nobody has any: the first HOUSE");
        Check.is(0, Check.of("house a 0 0 6;").fullest());
        Check.is(0, Check.of(SIX).fullest());
        DebtTable t = Check.of(TWO + "debt b a 1 0;");
        Check.is(1, t.fullest());
        t.forgive(0);
        Check.is(0, t.fullest());
        Check.about("27: the most open DEBTS for each CHAIR, of like ones the first");
        // DEBTS by CHAIRS of a and of b: which is the fullest
        int[][] due = {{1, 2, 2, 4, 0}, {2, 4, 1, 2, 0}, {5, 6, 4, 5, 0}, {4, 5, 5, 6, 1}, {1, 6, 1, 5, 1},
            {1, 5, 1, 6, 0}, {6, 6, 5, 5, 0}, {5, 5, 6, 6, 0}, {6, 5, 5, 4, 1}, {5, 4, 6, 5, 0}, {5, 6, 7, 6, 1}, {2, 3, 3, 4, 1},
            {3, 4, 2, 3, 0}, {0, 1, 1, 6, 1}, {12, 6, 0, 1, 0}, {6, 3, 2, 1, 0}, {6, 4, 6, 4, 0}, {3, 2, 4, 3, 0}};
        for (int[] d : due) {
            DebtTable u = Check.of("house a 0 0 " + d[1] + ";house b 0 0 " + d[3] + ";" + "debt a b 1 0;".repeat(d[0])
                    + "debt b a 1 0;".repeat(d[2]));
            Check.is(d[4], u.fullest());
        }
        Check.is(5, Check.of(SIX + "debt f a 1 0;debt f a 1 0;debt e a 1 0;").fullest());
    }

    private static void meanNumbers() {
        Check.about("28: NoSuchElementException: it has none, no such ones");
        Check.refused(Check.THROWS, t -> t.mean(3, 0));
        Check.refused(Check.THROWS, t -> t.mean(0, 2));
        for (int far : FAR) {
            Check.refused(Check.THROWS, t -> t.mean(far, 0));
            Check.refused(Check.THROWS, t -> t.mean(0, far));
        }
        Check.refused(Check.THROWS, DebtTable::new, t -> t.mean(0, 0));
        for (int what = 0; what < 2; what++) {
            int which = what;
            Check.refused(Check.THROWS, () -> full(), t -> t.mean(1, which));
            Check.refused(Check.THROWS, () -> full(), t -> t.mean(6, which));
        }
        DebtTable t = Check.of(TWO + "debt a b 2 7;");
        t.pay(0, 1);
        Check.is(7, t.mean(0, 0));
        t.pay(0, 1);
        Check.isNoSuchElement(() -> t.mean(0, 0));
        Check.isNoSuchElement(() -> t.mean(0, 1));
    }

    private static void meanIs(int above, int below, int... ages) {
        StringBuilder sb = new StringBuilder(TWO);
        for (int age : ages) {
            sb.append("debt a b 1 ").append(age).append(';');
        }
        DebtTable t = Check.of(sb.toString());
        Check.is(above, t.mean(0, 0));
        Check.is(below, t.mean(0, 1));
    }

    private static void mean() {
        Check.about("28: in least terms");
        meanIs(0, 1, 0);
        meanIs(0, 1, 0, 0, 0, 0, 0, 0, 0, 0, 0, 0, 0, 0);
        meanIs(1, 12, 0, 0, 0, 0, 0, 0, 0, 0, 0, 0, 0, 1);
        meanIs(1, 6, 0, 0, 0, 0, 0, 0, 0, 0, 0, 0, 0, 2);
        meanIs(1, 4, 0, 0, 0, 0, 0, 0, 0, 0, 0, 0, 0, 3);
        meanIs(1, 3, 0, 0, 0, 0, 0, 0, 0, 0, 0, 0, 0, 4);
        meanIs(2, 3, 0, 0, 0, 0, 0, 0, 0, 0, 0, 0, 0, 8);
        meanIs(3, 4, 0, 0, 0, 0, 0, 0, 0, 0, 0, 0, 0, 9);
        meanIs(1, 1, 0, 0, 0, 0, 0, 0, 0, 0, 0, 0, 0, 12);
        meanIs(99, 1, 99, 99, 99, 99, 99, 99, 99, 99, 99, 99, 99, 99);
        meanIs(99, 1, 99);
        meanIs(99, 2, 99, 0);
        meanIs(7, 11, 7, 0, 0, 0, 0, 0, 0, 0, 0, 0, 0);
        meanIs(5, 1, 1, 9);
        Check.about("28: AGES of its open DEBTS by how many they are");
        DebtTable t = Check.of(TWO + "debt a b 1 4;debt a b 1 9;debt b a 1 50;");
        Check.is(13, t.mean(0, 0));
        Check.is(2, t.mean(0, 1));
        t.forgive(0);
        t.years(1);
        Check.is(10, t.mean(0, 0));
        Check.is(1, t.mean(0, 1));
    }

    // ---- lines

    private static void lineNumbers() {
        Check.about("29: NONE: no such one");
        Check.refused(NONE, t -> t.line(5));
        for (int far : FAR) {
            Check.refused(NONE, t -> t.line(far));
        }
        Check.refused(NONE, DebtTable::new, t -> t.line(0));
        Check.is(NONE, full().line(12));
        Check.isText("a owes b 200 of 99", Check.line(full(), 11));
    }

    private static void line() {
        Check.about("LINE: the shortest and the longest");
        Check.isText("a owes b 1 of 0", Check.line(Check.of(TWO + "debt a b 1 0;"), 0));
        String names = "house abcdefg 999 0 1;house tuvwxyz 999 0 1;";
        DebtTable t = Check.of(names + "debt abcdefg tuvwxyz 200 99;grows 9 1;");
        String[] sums = {"200 of 99", "209 of 100"};
        for (String sum : sums) {
            Check.isText("abcdefg owes tuvwxyz " + sum, Check.line(t, 0));
            t.years(1);
        }
        t.years(60);
        t.years(26);
        Check.isText("abcdefg owes tuvwxyz 992 of 187", Check.line(t, 0));
        Check.is(31, t.line(0));
        t.years(1);
        Check.isText("abcdefg owes tuvwxyz 1001 of 188", Check.line(t, 0));
        Check.is(32, t.line(0));
        DebtTable thousand = Check.of(names + "debt abcdefg tuvwxyz 199 11;grows 9 1;");
        thousand.years(60);
        thousand.years(28);
        Check.isText("abcdefg owes tuvwxyz 991 of 99", Check.line(thousand, 0));
        thousand.years(1);
        Check.isText("abcdefg owes tuvwxyz 1000 of 100", Check.line(thousand, 0));
        Check.about("LINE: digits that are 0");
        DebtTable u = Check.of(TWO + "debt a b 10 10;debt a b 100 9;debt a b 101 90;");
        Check.isText("a owes b 10 of 10", Check.line(u, 0));
        Check.isText("a owes b 100 of 9", Check.line(u, 1));
        Check.isText("a owes b 101 of 90", Check.line(u, 2));
        Check.about("LINE: if it is not open");
        u.pay(0, 9);
        Check.isText("a owes b 1 of 10", Check.line(u, 0));
        u.pay(0, 1);
        Check.isText("a owes b paid", Check.line(u, 0));
        u.forgive(1);
        Check.isText("a owes b paid", Check.line(u, 1));
        t.forgive(0);
        Check.isText("abcdefg owes tuvwxyz paid", Check.line(t, 0));
    }

    private static void byteAt() {
        Check.about("30: NONE: none such");
        DebtTable t = Check.of("house abcdefg 9 0 1;house b 9 0 1;debt abcdefg b 5 0;debt b abcdefg 5 0;");
        for (int i = -1; i < 40; i++) {
            Check.is(NONE, t.byteAt(i));
        }
        t.line(2);
        Check.is(NONE, t.byteAt(0));
        Check.is(21, t.line(0));
        Check.is('a', t.byteAt(0));
        Check.is('0', t.byteAt(20));
        Check.is(NONE, t.byteAt(21));
        for (int far : FAR) {
            Check.is(NONE, t.byteAt(far));
        }
        Check.about("30: of the latest LINE");
        t.line(2);
        t.line(-1);
        Check.is('a', t.byteAt(0));
        t.forgive(0);
        Check.is('5', t.byteAt(15));
        // a shorter one behind a longer one
        Check.is(19, t.line(0));
        Check.is('d', t.byteAt(18));
        Check.is(NONE, t.byteAt(19));
        Check.shire(t, "");
        Check.is('d', t.byteAt(18));
        Check.is(NONE, t.line(0));
        Check.is('d', t.byteAt(18));
    }

    // ---- said

    private static void saidNumbers() {
        Check.about("36: NONE: there is no SENTENCE");
        DebtTable t = Check.of(Check.THREE);
        for (int k = -2; k < 4; k++) {
            Check.is(NONE, t.said(k));
        }
        Check.sentence(t, "x");
        Check.is(NONE, t.said(NONE));
        Check.about("36: how many (k NONE), or the k-th; NONE: none such");
        Check.sentence(t, "number>0");
        Check.is(2, t.said(NONE));
        Check.is(1, t.said(0));
        Check.is(2, t.said(1));
        Check.is(NONE, t.said(2));
        Check.is(NONE, t.said(-2));
        for (int far : FAR) {
            Check.is(far == -1 ? 2 : NONE, t.said(far));
        }
        Check.about("36: none, and all");
        Check.sentence(t, "number>5");
        Check.is(0, t.said(NONE));
        Check.is(NONE, t.said(0));
        DebtTable six = Check.of(SIX);
        Check.sentence(six, "number<6");
        Check.is(6, six.said(NONE));
        Check.is(5, six.said(5));
        Check.is(NONE, six.said(6));
        DebtTable empty = new DebtTable();
        Check.sentence(empty, "free");
        Check.is(0, empty.said(NONE));
        Check.is(NONE, empty.said(0));
    }

    /** How many HOUSES there are of which it may be said, as bits. */
    private static void saidOf(DebtTable t, String text, int bits) {
        Check.is(true, Check.sentence(t, text) > 0);
        Check.is(Integer.bitCount(bits), t.said(NONE));
        int k = 0;
        for (int h = 0; h < 6; h++) {
            if ((bits >> h & 1) == 1) {
                Check.is(h, t.said(k));
                k++;
            }
        }
        Check.is(NONE, t.said(k));
    }

    private static void said() {
        Check.about("SENTENCE: 'free': it owes nothing");
        DebtTable t = Check.of(TWO + "debt a b 2 0;");
        saidOf(t, "free", 2);
        t.pay(0, 1);
        saidOf(t, "free", 2);
        t.pay(0, 1);
        saidOf(t, "free", 3);
        Check.about("SENTENCE: 'broke': it owes more than it has");
        for (int coins = 9; coins <= 11; coins++) {
            saidOf(Check.of("house a " + coins + " 0 1;house b 0 0 1;debt a b 10 0;"), "broke", coins < 10 ? 1 : 0);
        }
        Check.about("SENTENCE: 'full': as many open DEBTS as CHAIRS, or more");
        for (int debts = 0; debts <= 12; debts++) {
            for (int chairs = 1; chairs <= 6; chairs++) {
                saidOf(Check.of("house a 0 0 " + chairs + ";house b 0 0 6;" + "debt a b 1 0;".repeat(debts)), "full",
                        debts >= chairs ? 1 : 0);
            }
        }
        Check.about("SENTENCE: 'owes' HOUSE: some DEBT to that one is open");
        DebtTable u = Check.of(TWO + "house c 9 0 1;debt a b 1 0;debt a b 1 0;debt c a 1 0;");
        saidOf(u, "owes b", 1);
        saidOf(u, "owes a", 4);
        saidOf(u, "owes c", 0);
        u.forgive(1);
        saidOf(u, "owes b", 1);
        u.undo();
        u.forgive(0);
        saidOf(u, "owes b", 1);
        u.sell(1, 2);
        saidOf(u, "owes b", 0);
        saidOf(u, "owes c", 1);
        u.forgive(1);
        saidOf(u, "owes c", 0);
        saidOf(full(), "owes b", 1);
        saidOf(full(), "owes c", 0);
        DebtTable back = Check.of(TWO);
        back.borrow(0, 1, 5);
        back.undo();
        saidOf(back, "owes b", 0);
        // whichever of the twelve it is
        for (int d = 0; d < 12; d++) {
            saidOf(Check.of(TWO + "debt b a 1 0;".repeat(d) + "debt a b 1 0;" + "debt b a 1 0;".repeat(11 - d)), "owes b", 1);
        }
        Check.about("SENTENCE: 'ringed': it is in a RING");
        DebtTable v = Check.of(TWO + "house c 9 0 1;debt a b 1 0;debt b a 1 0;debt c a 1 0;");
        saidOf(v, "ringed", 3);
        v.forgive(0);
        saidOf(v, "ringed", 0);
    }

    /** Each plain ONE on either side of 'and' and 'or', under 'not' and in brackets. */
    private static void saidJoined() {
        Check.about("SENTENCE: COND: ALL { 'or' ALL }, ALL: ONE { 'and' ONE }");
        String text = "house a 4 0 1;house b 5 0 2;house c 6 0 3;debt b a 9 0;debt c a 1 0;debt c b 1 0;"
                + "debt a c 1 0;house d 0 0 1;";
        String[] ones = {"free", "broke", "full", "ringed", "owes a", "coins>5", "debts=1", "chairs<2", "number=2"};
        int[] bits = {8, 2, 1, 7, 6, 4, 3, 9, 4};
        for (int i = 0; i < ones.length; i++) {
            DebtTable t = Check.of(text);
            saidOf(t, ones[i], bits[i]);
            saidOf(t, "not " + ones[i], 15 & ~bits[i]);
            saidOf(t, "(" + ones[i] + ")", bits[i]);
            for (int j = 0; j < ones.length; j++) {
                DebtTable u = Check.of(text);
                saidOf(u, ones[i] + " or " + ones[j], bits[i] | bits[j]);
                saidOf(u, ones[i] + " and " + ones[j], bits[i] & bits[j]);
                saidOf(u, "number=3 or " + ones[i] + " and " + ones[j], 8 | bits[i] & bits[j]);
                saidOf(u, ones[i] + " and " + ones[j] + " or number=3", bits[i] & bits[j] | 8);
                saidOf(u, "(number=3 or " + ones[i] + ")and not " + ones[j], (8 | bits[i]) & ~bits[j]);
            }
        }
    }

    private static void saidMeasures() {
        Check.about("SENTENCE: SIGN: < = >");
        String text = "house a 4 0 1;house b 5 0 2;house c 6 0 3;debt b a 1 0;debt c a 1 0;debt c b 1 0;";
        DebtTable t = Check.of(text);
        String[] measures = {"coins", "debts", "chairs", "number"};
        int[] middles = {5, 1, 2, 1};
        for (int i = 0; i < 4; i++) {
            for (int off = -2; off <= 2; off++) {
                int n = middles[i] + off;
                if (n >= 0) {
                    DebtTable u = Check.of(text);
                    saidOf(u, measures[i] + "<" + n, off == -2 || off == -1 ? 0 : off == 0 ? 1 : off == 1 ? 3 : 7);
                    saidOf(u, measures[i] + "=" + n, off == -1 ? 1 : off == 0 ? 2 : off == 1 ? 4 : 0);
                    saidOf(u, measures[i] + ">" + n, off == -2 ? 7 : off == -1 ? 6 : off == 0 ? 4 : 0);
                }
            }
        }
        Check.about("SENTENCE: coins above 999, open DEBTS alone");
        DebtTable rich = Check.of("house a 999 1 1;house b 999 0 1;debt a b 1 0;");
        saidOf(rich, "coins=999", 3);
        saidOf(rich, "coins>999", 0);
        rich.years(1);
        saidOf(rich, "coins>999", 1);
        saidOf(rich, "coins=999", 2);
        saidOf(rich, "debts=1", 1);
        rich.forgive(0);
        saidOf(rich, "debts=0", 3);
        Check.about("SENTENCE: the longest there can be");
        saidOf(t, "number=0 or ".repeat(14) + "number=2", 5);
        saidOf(t, "number<9 and ".repeat(14) + "number=2", 4);
        saidOf(t, "(((((((free)))))))", 1);
        saidOf(t, "not not not not not not not free", 6);
        // nobody is full or broke; c alone has more than one DEBT
        saidOf(t, "not(not(not(free)and full)or broke)or(number=1)", 2);
        saidOf(t, "not(not(not(free)and debts>1)or broke)or(number=1)", 6);
    }

    private static void count() {
        Check.about("39: NONE for another what");
        Check.refused(NONE, t -> t.count(5));
        for (int far : FAR) {
            Check.refused(NONE, t -> t.count(far));
        }
        Check.about("39: an empty SHIRE and a full one");
        int[] due = {6, 12, 1, 5, 0};
        int[] none = {0, 0, 1, 5, 0};
        for (int what = 0; what < 5; what++) {
            Check.is(due[what], full().count(what));
            Check.is(none[what], new DebtTable().count(what));
        }
        Check.about("39: DEBTS, open or not");
        DebtTable t = full();
        for (int d = 0; d < 12; d++) {
            t.forgive(d);
        }
        Check.is(12, t.count(1));
    }
}
