/** Each promise of the document: ordinary inputs, the edges that it names, wrong inputs. Due answers are by hand. */
public final class PromiseTest {
    private static final int NONE = DebtTable.NONE;

    private static final String THREE = Check.THREE;
    private static final String TWO = Check.TWO;

    private PromiseTest() { }

    public static void main(String[] args) {
        aNewObject();
        feed();
        end();
        shire();
        shireFaults();
        tooLong();
        tokens();
        fault();
        house();
        worth();
        debt();
        at();
        now();
        pay();
        borrow();
        sell();
        forgive();
        clear();
        years();
        lastYear();
        undo();
        undoOfAll();
        top();
        able();
        meets();
        ring();
        settle();
        which();
        ask();
        fullest();
        mean();
        line();
        drawn();
        odds();
        book();
        bookFaults();
        told();
        sentence();
        sentenceFaults();
        said();
        image();
        count();
        Check.end();
    }

    private static String repeat(String s, int n) {
        return s.repeat(n);
    }

    private static String pad(String s, int length) {
        return s + " ".repeat(length - s.length());
    }

    private static void aNewObject() {
        Check.about("1 a new object");
        DebtTable t = new DebtTable();
        Check.is(0, t.count(0));
        Check.is(0, t.count(1));
        Check.is(1, t.count(2));
        Check.is(5, t.count(3));
        Check.is(0, t.count(4));
        Check.is(0, t.fault());
        Check.is(0, t.now(0));
        Check.is(NONE, t.said(NONE));
        Check.is(NONE, t.undo());
        Check.is(NONE, t.told(0));
        Check.is(NONE, t.ableOf());
        Check.is(NONE, t.ringAt(0));
        Check.is(NONE, t.ask());
        Check.is(NONE, t.byteAt(0));
        Check.is(NONE, t.fullest());
        Check.is(0, t.settle());
        Check.is(0, t.shire());
    }

    private static void feed() {
        Check.about("2 feed");
        DebtTable t = new DebtTable();
        Check.is(20, t.feed(0x00020104, 0, 0, 0, 0xff));
        Check.is(20, t.count(4));
        for (int i = 2; i <= 47; i++) {
            Check.is(20 * i, t.feed(1, 2, 3, 4, 5));
        }
        Check.is(NONE, t.feed(1, 2, 3, 4, 5));
        Check.is(940, t.count(4));
        t.end(920);
        Check.is(940, t.feed(1, 2, 3, 4, 5));
        t.end(921);
        Check.is(NONE, t.feed(1, 2, 3, 4, 5));
        Check.is(921, t.count(4));

        // of each number the highest byte first: debt 0 is the one with coins left 255
        DebtTable u = Check.of(TWO + "debt a b 1 0;debt a b 200 7;");
        u.feed(0x02c80307, 0, 0, 0, 0);
        u.end(4);
        Check.is(2, u.which());
        u.feed(0, 0, 0, 0, 0x000002c8);
        u.end(0);
        Check.is(NONE, u.which());
    }

    private static void end() {
        Check.about("3 end");
        DebtTable t = new DebtTable();
        Check.is(true, t.end(0));
        Check.is(false, t.end(1));
        Check.is(false, t.end(-1));
        t.feed(1, 2, 3, 4, 5);
        Check.is(false, t.end(21));
        Check.is(20, t.count(4));
        Check.is(true, t.end(20));
        Check.is(true, t.end(7));
        Check.is(7, t.count(4));
        Check.is(false, t.end(8));
        Check.is(27, t.feed(1, 2, 3, 4, 5));
        Check.is(false, t.end(Integer.MIN_VALUE));
        Check.is(false, t.end(Integer.MAX_VALUE));
    }

    private static void shire() {
        Check.about("4 shire");
        DebtTable t = new DebtTable();
        Check.is(9, Check.shire(t, THREE));
        Check.is(0, t.count(4));
        Check.is(3, t.count(0));
        Check.is(5, t.count(1));
        Check.is(0, Check.shire(t, ""));
        Check.is(0, t.count(0));
        Check.is(0, Check.shire(t, " \n  "));
        Check.is(2, Check.shire(t, "house abcdefg 999 30 6;house b 0 0 1;"));
        Check.is(999, t.house(0, 0));
        Check.is(3, Check.shire(t, "\nhouse a 007 00 1;\nhouse b\n0 0 001 ; grows 0 30 ;"));
        Check.is(7, t.house(0, 0));
        Check.is(0, t.count(2));
        Check.is(30, t.count(3));
        Check.is(1, Check.shire(t, "grows 9 1;"));

        // of one house to another there can be more than one
        Check.is(14, Check.shire(t, TWO + repeat("debt a b 1 0;", 12)));
        Check.is(12, t.count(1));
        Check.is(6, Check.shire(t, "house a 1 1 1;house b 1 1 1;house c 1 1 1;house d 1 1 1;house e 1 1 1;"
                + "house f 1 1 1;"));

        // a new shire: year 0, nothing paid, no sentence, nothing to undo
        t = Check.of(THREE);
        t.years(3);
        t.pay(1, 5);
        Check.sentence(t, "free");
        Check.is(2, Check.shire(t, TWO));
        Check.is(0, t.now(0));
        Check.is(0, t.now(4));
        Check.is(NONE, t.said(NONE));
        Check.is(NONE, t.undo());
        Check.is(1, t.count(2));
        Check.is(5, t.count(3));

        // a fault: all stays, but the tape is empty
        t = Check.of(THREE);
        t.years(3);
        Check.sentence(t, "not free");
        Check.is(-1, Check.shire(t, "hose a 1 1 1;"));
        Check.is(0, t.count(4));
        Check.is(3, t.count(0));
        Check.is(3, t.now(0));
        Check.is(3, t.said(NONE));
        Check.is(0, t.undo());
        Check.is(0, t.now(0));
    }

    private static void shireFault(int place, int kind, String text) {
        DebtTable t = new DebtTable();
        Check.isFault(t, place, kind, Check.shire(t, text), -1);
        Check.is(0, t.count(0));
    }

    private static void shireFaults() {
        Check.about("4 faults of a shire");
        // 1: no token, or one that can't come; the end
        shireFault(0, 1, "x");
        shireFault(0, 1, ";");
        shireFault(0, 1, "5");
        shireFault(0, 1, "pay 1 1;");
        shireFault(5, 1, "house");
        shireFault(7, 1, "house  ");
        shireFault(6, 1, "house 1 1 1 1;");
        shireFault(6, 1, "house ; 1 1 1;");
        for (String word : Model.WORDS) {
            shireFault(6, 1, "house " + word + " 1 1 1;");
            shireFault(TWO.length() + 5, 1, TWO + "debt " + word + " b 1 1;");
            shireFault(TWO.length() + 7, 1, TWO + "debt a " + word + " 1 1;");
        }
        shireFault(7, 1, "house a;");
        shireFault(8, 1, "house a b 1 1;");
        shireFault(10, 1, "house a 1 a 1;");
        shireFault(13, 1, "house a 1 1 1");
        shireFault(14, 1, "house a 1 1 1 1;");
        shireFault(14, 1, "house a 1 1 1;;");
        shireFault(14, 1, "house a 1 1 1;=");
        shireFault(6, 1, "grows a 1;");
        shireFault(9, 1, "grows 1 1");

        // 2: numbers
        shireFault(10, 2, "house a 1 31 1;");
        shireFault(12, 2, "house a 1 1 0;");
        shireFault(12, 2, "house a 1 1 7;");
        shireFault(6, 2, "grows 10 1;");
        shireFault(8, 2, "grows 9 0;");
        shireFault(8, 2, "grows 9 31;");
        int debt = TWO.length();
        shireFault(debt + 9, 2, TWO + "debt a b 0 0;");
        shireFault(debt + 9, 2, TWO + "debt a b 201 0;");
        shireFault(debt + 13, 2, TWO + "debt a b 200 100;");

        // 3: names
        shireFault(20, 3, "house a 1 1 1;house a 1 1 1;");
        shireFault(5, 3, "debt a b 1 1;");
        shireFault(debt + 5, 3, TWO + "debt c b 1 1;");
        shireFault(debt + 7, 3, TWO + "debt a c 1 1;");
        shireFault(debt + 7, 3, TWO + "debt a a 1 1;");
        shireFault(10, 3, "grows 1 1;grows 1 1;");
        shireFault(10, 3, "grows 1 1;grows;");
        // a house is told ahead of its debts
        shireFault(5, 3, "debt a b 1 1;" + TWO);

        // 4: one more than there may be
        String six = "house a 1 1 1;house b 1 1 1;house c 1 1 1;house d 1 1 1;house e 1 1 1;house f 1 1 1;";
        shireFault(six.length(), 4, six + "house g 1 1 1;");
        shireFault(six.length(), 4, six + "house a 1 1 99;");
        shireFault(six.length(), 4, six + "house");
        String twelve = TWO + repeat("debt a b 1 0;", 12);
        shireFault(twelve.length(), 4, twelve + "debt a b 1 0;");
        shireFault(twelve.length() + 1, 4, twelve + " debt ;");

        // the first along the text
        shireFault(8, 1, "house a x 99 9;house a 1 1 1;");
        shireFault(10, 2, "house a 1 99 9;;");
    }

    private static void tooLong() {
        Check.about("4 the most bytes");
        DebtTable t = new DebtTable();
        String line = "grows 1 1;";
        Check.is(1, Check.shire(t, pad(line, 900)));
        Check.is(-901, Check.shire(t, pad(line, 901)));
        Check.is(1, t.fault());
        Check.is(-901, Check.shire(t, pad(line, 940)));
        // tokens that begin ahead of the most bytes are read whole, and their faults come first
        Check.is(-900, Check.shire(t, pad(line, 899) + "housea"));
        Check.is(-901, Check.shire(t, pad(line, 899) + "house"));
        Check.is(1, t.fault());
        Check.is(-900, Check.shire(t, pad(line, 899) + "grows"));
        Check.is(3, t.fault());
        Check.is(-901, Check.shire(t, pad(line, 900) + "grows"));
        Check.is(1, t.fault());
        Check.is(-7, Check.shire(t, pad("grows a", 901)));
        // a number that goes on beyond them
        Check.is(-899, Check.shire(t, pad("grows 1", 898) + "99;"));
        Check.is(2, t.fault());
        Check.is(-899, Check.shire(t, pad("grows 1", 898) + "9999"));
        Check.is(1, t.fault());
        Check.is(-901, Check.shire(t, pad("grows 1", 898) + "030"));
        // the end itself, where there are just so many bytes
        Check.is(-901, Check.shire(t, pad("grows 1", 900)));
        Check.is(1, t.fault());

        DebtTable u = Check.of(TWO);
        Check.is(NONE, Check.book(u, 0, pad("year 1;", 400)));
        Check.is(-402, Check.book(u, 0, pad("year 1;", 401)));
        Check.is(1, u.fault());
        Check.is(1, Check.sentence(u, pad("free", 200)));
        Check.is(-201, Check.sentence(u, pad("free", 201)));
        Check.is(1, u.fault());
        Check.is(-201, Check.sentence(u, pad("free", 197) + "and x"));
        Check.is(-200, Check.sentence(u, pad("free and", 199) + "xx"));
        Check.is(-200, Check.sentence(u, pad("free and owes", 199) + "xx"));
        Check.is(3, u.fault());
    }

    private static void tokens() {
        Check.about("tokens");
        DebtTable t = new DebtTable();
        // blanks or none, where words and numbers do not run together
        Check.is(1, Check.shire(t, "grows\n\n1 1  ;"));
        Check.is(-1, Check.shire(t, "grows1 1;"));
        Check.is(-7, Check.shire(t, "grows 1a 1;"));
        Check.is(-7, Check.shire(t, "grows 0001 1;"));
        Check.is(1, t.fault());
        Check.is(-7, Check.shire(t, "house abcdefgh 1 1 1;"));
        Check.is(1, t.fault());
        Check.is(1, Check.shire(t, "house abcdefg 1 1 1;"));
        Check.is(-7, Check.shire(t, "house a1 1 1 1;"));
        Check.is(-7, Check.shire(t, "house A 1 1 1;"));
        Check.is(-8, Check.shire(t, "house aA 1 1 1;"));
        for (int sign : new int[] {0, 9, 13, '.', ',', '/', ':', '?', '`', '{', '_', '-', '+', 128, 160, 233, 255}) {
            Check.is(-1, Check.shire(t, (char) sign + "grows 1 1;"));
            Check.is(-6, Check.shire(t, "grows" + (char) sign + " 1 1;"));
            Check.is(1, t.fault());
        }
        Check.is(-9, Check.shire(t, "grows 1 (1;"));
        Check.is(2, Check.shire(t, "house a 1 1 1;house b 1 1 1 ;"));
        Check.is(4, Check.sentence(t, "(free)and(coins>1)"));
    }

    private static void fault() {
        Check.about("5 fault");
        DebtTable t = new DebtTable();
        Check.is(0, t.fault());
        Check.shire(t, "debt a b 1 1;");
        Check.is(3, t.fault());
        Check.shire(t, TWO);
        Check.is(0, t.fault());
        Check.book(t, 0, "pay 12 1;");
        Check.is(2, t.fault());
        // a book that is not read leaves it
        Check.is(-1000, Check.book(t, 2, ""));
        Check.is(2, t.fault());
        Check.sentence(t, "free");
        Check.is(0, t.fault());
        Check.sentence(t, "x");
        Check.is(1, t.fault());
        Check.which(t, 9, 9);
        Check.is(1, t.fault());
        Check.book(t, 0, "");
        Check.is(0, t.fault());
    }

    private static void house() {
        Check.about("6 house");
        DebtTable t = Check.of(THREE);
        int[][] due = {{30, 5, 2, 40, 8, 19, 1}, {10, 0, 1, 12, 25, 4, 0}, {50, 2, 3, 8, 27, 8, 0}};
        for (int h = 0; h < 3; h++) {
            for (int what = 0; what < 7; what++) {
                Check.is(due[h][what], t.house(h, what));
            }
        }
        for (int[] wrong : new int[][] {{-1, 0}, {3, 0}, {0, -1}, {0, 7}, {6, 0}, {Integer.MAX_VALUE, 0},
                {Integer.MIN_VALUE, 0}, {0, Integer.MAX_VALUE}}) {
            Check.isNoSuchElement(() -> t.house(wrong[0], wrong[1]));
        }
        t.forgive(1);
        Check.is(17, t.house(0, 5));
        Check.is(0, t.house(0, 6));
    }

    private static void worth() {
        Check.about("7 worth");
        DebtTable t = Check.of(THREE);
        Check.is(-2, t.worth(0));
        Check.is(23, t.worth(1));
        Check.is(69, t.worth(2));
        Check.isNoSuchElement(() -> t.worth(3));
        Check.isNoSuchElement(() -> t.worth(-1));
        t.pay(0, 20);
        Check.is(-2, t.worth(0));
    }

    private static void debt() {
        Check.about("8 debt");
        DebtTable t = Check.of(THREE);
        int[][] due = {{0, 1, 20, 10, 1}, {0, 2, 15, 40, 0}, {1, 2, 12, 3, 0}, {2, 0, 8, 7, 0}, {0, 1, 5, 10, 2}};
        for (int d = 0; d < 5; d++) {
            for (int what = 0; what < 5; what++) {
                Check.is(due[d][what], t.debt(d, what));
            }
            Check.is(NONE, t.debt(d, -1));
            Check.is(NONE, t.debt(d, 5));
        }
        Check.is(NONE, t.debt(-1, 0));
        Check.is(NONE, t.debt(5, 0));
        t.forgive(1);
        t.years(2);
        Check.is(0, t.debt(1, 0));
        Check.is(2, t.debt(1, 1));
        Check.is(0, t.debt(1, 2));
        Check.is(40, t.debt(1, 3));
        Check.is(NONE, t.debt(1, 4));
        Check.is(0, t.debt(0, 4));
        Check.is(1, t.debt(4, 4));
    }

    private static void at() {
        Check.about("9 at");
        DebtTable t = Check.of(THREE);
        Check.is(1, t.at(0, 0));
        Check.is(0, t.at(0, 1));
        // debt 4 stands
        Check.is(NONE, t.at(0, 2));
        Check.is(2, t.at(1, 0));
        Check.is(NONE, t.at(1, 1));
        Check.is(NONE, t.at(0, -1));
        Check.is(NONE, t.at(-1, 0));
        Check.is(NONE, t.at(3, 0));
        Check.is(NONE, t.at(2, 1));
        t.forgive(1);
        Check.is(0, t.at(0, 0));
        Check.is(4, t.at(0, 1));
        Check.is(NONE, t.at(0, Integer.MAX_VALUE));
    }

    private static void now() {
        Check.about("10 now");
        DebtTable t = Check.of(THREE);
        int[] due = {0, 90, 60, 31, 0, 3, 7};
        for (int what = 0; what < 7; what++) {
            Check.is(due[what], t.now(what));
        }
        Check.is(NONE, t.now(-1));
        Check.is(NONE, t.now(7));
        t.pay(1, 15);
        Check.is(15, t.now(4));
        Check.is(29, t.now(3));
        Check.is(45, t.now(2));
        Check.is(90, t.now(1));
        // neither borrowed nor sold
        t.borrow(0, 2, 3);
        t.sell(0, 2);
        Check.is(15, t.now(4));
        t.years(7);
        Check.is(7, t.now(0));
        // owing as much as it has is not broke
        DebtTable u = Check.of("house a 10 0 1;house b 0 0 1;debt a b 10 0;debt b a 1 0;");
        Check.is(2, u.now(5));
        Check.is(3, u.now(6));
        u.forgive(0);
        Check.is(0, u.now(6));
    }

    private static void pay() {
        Check.about("11 pay");
        DebtTable t = Check.of("house a 10 0 1;house b 0 0 1;debt a b 20 0;debt b a 5 0;");
        Check.is(NONE, t.pay(-1, 1));
        Check.is(NONE, t.pay(2, 1));
        Check.is(NONE, t.pay(0, 0));
        Check.is(NONE, t.pay(0, 1000));
        Check.is(NONE, t.pay(0, -5));
        Check.is(2, t.pay(0, 21));
        Check.is(2, t.pay(0, 999));
        Check.is(3, t.pay(0, 20));
        Check.is(3, t.pay(0, 11));
        Check.is(3, t.pay(1, 5));
        Check.is(2, t.pay(1, 6));
        Check.is(NONE, t.undo());
        Check.is(0, t.pay(0, 10));
        Check.is(0, t.house(0, 0));
        Check.is(10, t.house(1, 0));
        Check.is(10, t.debt(0, 2));
        Check.is(0, t.pay(1, 5));
        Check.is(1, t.pay(1, 5));
        Check.is(15, t.now(4));
    }

    private static void borrow() {
        Check.about("12 borrow");
        DebtTable t = Check.of(TWO);
        Check.is(NONE, t.borrow(0, 0, 1));
        Check.is(NONE, t.borrow(0, 2, 1));
        Check.is(NONE, t.borrow(2, 0, 1));
        Check.is(NONE, t.borrow(-1, 0, 1));
        Check.is(NONE, t.borrow(0, -1, 1));
        Check.is(NONE, t.borrow(0, 1, 0));
        Check.is(NONE, t.borrow(0, 1, 201));
        Check.is(2, t.borrow(0, 1, 101));
        Check.is(2, t.borrow(0, 1, 200));
        Check.is(0, t.count(1));
        t.years(2);
        Check.is(0, t.borrow(0, 1, 100));
        Check.is(1, t.count(1));
        int[] due = {0, 1, 100, 0, 0};
        for (int what = 0; what < 5; what++) {
            Check.is(due[what], t.debt(0, what));
        }
        Check.is(200, t.house(0, 0));
        Check.is(0, t.house(1, 0));
        Check.is(0, t.borrow(1, 0, 200));
        for (int i = 0; i < 10; i++) {
            Check.is(0, t.borrow(0, 1, 1));
        }
        // twelve, open or not, ahead of too few coins
        t.forgive(3);
        Check.is(1, t.borrow(0, 1, 1));
        Check.is(1, t.borrow(1, 0, 200));
        Check.is(12, t.count(1));
        Check.is(0, t.now(4));
    }

    private static void sell() {
        Check.about("13 sell");
        DebtTable t = Check.of("house a 0 0 1;house b 5 0 1;house c 20 0 1;house d 9 0 1;debt a b 10 3;debt a b 1 1;");
        Check.is(NONE, t.sell(-1, 0));
        Check.is(NONE, t.sell(2, 0));
        Check.is(NONE, t.sell(0, -1));
        Check.is(NONE, t.sell(0, 4));
        Check.is(2, t.sell(0, 1));
        Check.is(3, t.sell(0, 0));
        Check.is(4, t.sell(0, 3));
        Check.is(0, t.sell(0, 2));
        Check.is(2, t.debt(0, 1));
        Check.is(0, t.debt(0, 0));
        Check.is(10, t.debt(0, 2));
        Check.is(3, t.debt(0, 3));
        Check.is(15, t.house(1, 0));
        Check.is(10, t.house(2, 0));
        Check.is(0, t.now(4));
        // as many coins as are left are enough
        Check.is(0, t.sell(0, 1));
        t.forgive(1);
        Check.is(1, t.sell(1, 1));
        Check.is(1, t.sell(1, 0));
    }

    private static void forgive() {
        Check.about("14 forgive");
        DebtTable t = Check.of(THREE);
        Check.is(NONE, t.forgive(-1));
        Check.is(NONE, t.forgive(5));
        Check.is(0, t.forgive(2));
        Check.is(0, t.debt(2, 2));
        Check.is(1, t.forgive(2));
        Check.is(90, t.now(1));
        Check.is(0, t.now(4));
        Check.is(5, t.count(1));
    }

    private static void clear() {
        Check.about("15 clear");
        DebtTable t = Check.of(THREE);
        Check.is(NONE, t.clear(-1, 0));
        Check.is(NONE, t.clear(0, 5));
        Check.is(NONE, t.clear(5, 0));
        Check.is(2, t.clear(0, 0));
        Check.is(2, t.clear(0, 4));
        Check.is(2, t.clear(0, 3));
        Check.is(2, t.clear(2, 3));
        Check.is(0, t.clear(3, 1));
        Check.is(0, t.debt(3, 2));
        Check.is(7, t.debt(1, 2));
        Check.is(1, t.clear(3, 1));
        Check.is(1, t.clear(1, 3));
        Check.is(1, t.clear(3, 3));
        Check.is(0, t.now(4));
        Check.is(30, t.house(0, 0));
        DebtTable u = Check.of(TWO + "debt a b 7 0;debt b a 7 0;");
        Check.is(0, u.clear(0, 1));
        Check.is(0, u.now(3));
    }

    private static void years() {
        Check.about("16 years");
        DebtTable t = Check.of(THREE);
        Check.is(NONE, t.years(0));
        Check.is(NONE, t.years(61));
        Check.is(NONE, t.years(-1));
        Check.is(3, t.years(3));
        Check.is(45, t.house(0, 0));
        Check.is(10, t.house(1, 0));
        Check.is(56, t.house(2, 0));
        Check.is(60, t.now(2));
        Check.is(13, t.debt(0, 3));
        t.forgive(0);
        Check.is(1, t.years(1));
        // each open one grows by 2 in year 4
        Check.is(40 + 8, t.now(2));
        Check.is(17, t.debt(1, 2));
        Check.is(0, t.debt(0, 2));
        Check.is(13, t.debt(0, 3));
        Check.is(60, t.years(60));
        Check.is(64, t.now(0));
        Check.is(48 + 15 * 8, t.now(2));

        // 1 coin in 5 years, if nothing is told
        DebtTable u = Check.of(TWO + "debt a b 1 0;");
        u.years(4);
        Check.is(1, u.debt(0, 2));
        u.years(1);
        Check.is(2, u.debt(0, 2));
        // a borrowed one grows too
        u.borrow(1, 0, 4);
        u.years(5);
        Check.is(5, u.debt(1, 2));
        Check.is(5, u.debt(1, 3));
    }

    private static void lastYear() {
        Check.about("16 the last year, the most coins");
        DebtTable t = Check.of("house a 999 30 1;house b 999 30 1;house c 0 0 1;debt b a 200 99;grows 9 1;");
        for (int i = 0; i < 5; i++) {
            Check.is(60, t.years(60));
        }
        // 999 and 300 times 30 are 9999
        Check.is(9999, t.house(0, 0));
        t.years(1);
        Check.is(9999, t.house(0, 0));
        Check.is(0, t.pay(0, 500));
        Check.is(10499, t.house(0, 0));
        Check.is(9499, t.house(1, 0));
        t.years(1);
        Check.is(10499, t.house(0, 0));
        Check.is(9529, t.house(1, 0));
        t.years(16);
        Check.is(9999, t.house(1, 0));
        Check.is(60, t.years(60));
        Check.is(378, t.now(0));
        Check.is(22, t.years(60));
        Check.is(400, t.now(0));
        Check.is(0, t.years(1));
        Check.is(0, t.drawn(5, 7));
        Check.is(3300, t.debt(0, 2));
        Check.is(499, t.debt(0, 3));
        // neither of the two is kept
        Check.is(7, t.undo());
        Check.is(378, t.now(0));
        Check.is(22, t.drawn(60, 7));
        Check.is(400, t.now(0));
    }

    private static void undo() {
        Check.about("17 undo");
        DebtTable t = Check.of(THREE);
        Check.is(NONE, t.undo());
        t.pay(0, 5);
        t.pay(0, 50);
        t.pay(9, 5);
        t.borrow(1, 2, 6);
        Check.is(1, t.undo());
        Check.is(5, t.count(1));
        Check.is(5, t.now(4));
        Check.is(0, t.undo());
        Check.is(0, t.now(4));
        Check.is(20, t.debt(0, 2));
        Check.is(30, t.house(0, 0));
        Check.is(NONE, t.undo());

        // eight at most
        for (int i = 0; i < 11; i++) {
            t.pay(0, 1);
        }
        for (int left = 7; left >= 0; left--) {
            Check.is(left, t.undo());
        }
        Check.is(NONE, t.undo());
        Check.is(17, t.debt(0, 2));
        Check.is(0, t.pay(0, 1));
        Check.is(0, t.undo());
        Check.is(17, t.debt(0, 2));
    }

    private static void undoOfAll() {
        Check.about("17 undo of each act");
        DebtTable t = Check.of(THREE);
        Check.is(2, t.sell(1, 2));
        Check.is(0, t.sell(0, 2));
        Check.is(0, t.undo());
        Check.is(1, t.debt(0, 1));
        t.forgive(0);
        Check.is(0, t.undo());
        t.clear(1, 3);
        Check.is(0, t.undo());
        Check.is(60, t.now(2));
        t.years(4);
        Check.is(0, t.undo());
        Check.is(0, t.now(0));
        Check.is(10, t.debt(0, 3));
        t.drawn(9, 5);
        Check.is(0, t.undo());
        Check.is(5, t.count(1));
        Check.is(90, t.now(1));
        // a book is one act; one of which no line was lived is none
        Check.book(t, 1, "pay 0 1;pay 0 1;year 3;");
        Check.is(18, t.debt(0, 2));
        Check.is(0, t.undo());
        Check.is(20, t.debt(0, 2));
        Check.book(t, 0, "pay 0 1;");
        Check.book(t, 1, "");
        Check.book(t, 1, "pay 9 1;pay 0 1;");
        Check.is(NONE, t.undo());
        Check.book(t, 1, "pay 0 1;pay 9 1;");
        Check.is(0, t.undo());
        Check.is(0, t.now(4));
        // the sentence stays
        t.pay(0, 1);
        Check.sentence(t, "free");
        Check.is(0, t.undo());
        Check.is(0, t.said(NONE));
    }

    private static void top() {
        Check.about("18 top");
        DebtTable t = Check.of(THREE);
        int[] due = {15, 0, 0, 0, 35};
        for (int d = 0; d < 5; d++) {
            Check.is(due[d], t.top(d));
        }
        Check.is(NONE, t.top(-1));
        Check.is(NONE, t.top(5));
        t.forgive(1);
        Check.is(NONE, t.top(1));
        Check.is(0, t.top(0));
        Check.is(20, t.top(4));
    }

    private static void able() {
        Check.about("19, 20 able, ableOf");
        DebtTable t = Check.of(THREE);
        Check.is(NONE, t.ableOf());
        Check.is(NONE, t.able(3));
        Check.is(NONE, t.able(-1));
        Check.is(NONE, t.ableOf());
        Check.is(2, t.able(0));
        Check.is(18, t.ableOf());
        Check.is(NONE, t.able(7));
        Check.is(18, t.ableOf());
        Check.is(0, t.able(1));
        Check.is(0, t.ableOf());
        Check.is(1, t.able(2));
        Check.is(8, t.ableOf());
        // what was told stays, though all is new
        Check.shire(t, TWO + "debt a b 60 0;debt a b 30 0;debt a b 40 0;debt a b 30 1;debt a b 40 2;");
        Check.is(8, t.ableOf());
        Check.is(3, t.able(0));
        // 30, 30 and 40: of the two the first
        Check.is(2 + 8 + 4, t.ableOf());
        t.forgive(2);
        Check.is(3, t.able(0));
        Check.is(2 + 8 + 16, t.ableOf());
        DebtTable u = Check.of("house a 10 0 1;house b 0 0 1;debt a b 10 0;debt a b 4 0;debt a b 7 0;debt a b 6 0;");
        Check.is(2, u.able(0));
        Check.is(2 + 8, u.ableOf());
    }

    private static void meets() {
        Check.about("21 meets");
        DebtTable t = Check.of(THREE);
        Check.is(0, t.meets(0));
        Check.is(NONE, t.meets(2));
        Check.is(NONE, t.meets(3));
        Check.is(NONE, t.meets(-1));
        // 1 coin a year more
        t = Check.of("house a 99 0 1;house b 0 0 1;debt a b 1 0;grows 1 1;");
        Check.is(99, t.meets(0));
        Check.is(NONE, t.meets(1));
        t.years(1);
        Check.is(98, t.meets(0));
        Check.is(1, t.now(0));
        t = Check.of("house a 100 0 1;house b 0 0 1;debt a b 1 0;grows 1 1;");
        Check.is(NONE, t.meets(0));
        t.years(1);
        Check.is(99, t.meets(0));
        // year 400 is no matter
        t = Check.of("house a 5 0 1;house b 999 0 1;grows 1 30;");
        for (int i = 0; i < 7; i++) {
            t.years(60);
        }
        t.borrow(0, 1, 3);
        // it has 8; the debt of 3 is 9 behind six times of growing: in the years 420, 450, .. 570
        Check.is(400, t.now(0));
        Check.is(NONE, t.meets(0));
        t.borrow(0, 1, 1);
        t.borrow(0, 1, 1);
        t.pay(0, 3);
        // 7 coins, two of 1: 3 apiece, at 2 times; 4 apiece at 3 times: year 480
        Check.is(80, t.meets(0));
    }

    private static void ring() {
        Check.about("22, 23 ring, ringAt");
        DebtTable t = Check.of(THREE);
        Check.is(NONE, t.ringAt(0));
        Check.is(2, t.ring(0));
        Check.is(0, t.ringAt(0));
        Check.is(2, t.ringAt(1));
        Check.is(NONE, t.ringAt(2));
        Check.is(NONE, t.ringAt(-1));
        Check.is(3, t.ring(1));
        Check.is(1, t.ringAt(0));
        Check.is(2, t.ringAt(1));
        Check.is(0, t.ringAt(2));
        Check.is(NONE, t.ring(3));
        Check.is(NONE, t.ring(-1));
        t.forgive(3);
        Check.is(NONE, t.ring(1));
        Check.is(2, t.ringAt(1));
        // house by house the least: 0 1 4 and 0 2 3 are as long
        t = Check.of("house a 1 1 1;house b 1 1 1;house c 1 1 1;house d 1 1 1;house e 1 1 1;debt a c 1 1;"
                + "debt c d 1 1;debt d a 1 1;debt a b 1 1;debt b e 1 1;debt e a 1 1;debt b c 1 1;");
        Check.is(3, t.ring(0));
        Check.is(1, t.ringAt(1));
        Check.is(4, t.ringAt(2));
        Check.is(3, t.ring(3));
        Check.is(3, t.ringAt(0));
        Check.is(0, t.ringAt(1));
        Check.is(2, t.ringAt(2));
        // all six
        t = Check.of("house a 1 1 1;house b 1 1 1;house c 1 1 1;house d 1 1 1;house e 1 1 1;house f 1 1 1;"
                + "debt a f 1 1;debt f e 1 1;debt e d 1 1;debt d c 1 1;debt c b 1 1;debt b a 1 1;");
        Check.is(6, t.ring(2));
        Check.is(2, t.ringAt(0));
        Check.is(1, t.ringAt(1));
        Check.is(0, t.ringAt(2));
        Check.is(5, t.ringAt(3));
        Check.is(3, t.ringAt(5));
        Check.is(NONE, t.ringAt(6));
        Check.is(63, t.now(6));
        // one that leads to a ring is in none
        t = Check.of("house a 1 1 1;house b 1 1 1;house c 1 1 1;debt a b 1 1;debt b c 1 1;debt c b 1 1;");
        Check.is(NONE, t.ring(0));
        Check.is(6, t.now(6));
    }

    private static void settle() {
        Check.about("24 settle");
        Check.is(2, Check.of(THREE).settle());
        Check.is(0, Check.of(TWO).settle());
        Check.is(0, Check.of(TWO + "debt a b 5 0;debt b a 5 0;").settle());
        Check.is(1, Check.of(TWO + "debt a b 5 0;debt b a 4 0;").settle());
        String six = "house a 1 1 1;house b 1 1 1;house c 1 1 1;house d 1 1 1;house e 1 1 1;house f 1 1 1;";
        // three pairs, though told in a round
        Check.is(3, Check.of(six + "debt a b 1 0;debt c d 2 0;debt e f 3 0;").settle());
        Check.is(3, Check.of(six + "debt a d 3 0;debt b e 4 0;debt c f 5 0;debt a b 7 0;debt b c 7 0;debt c a 7 0;")
                .settle());
        // -3, -2, 5 and -1, -1, 2
        Check.is(4, Check.of(six + "debt a c 3 0;debt b c 2 0;debt d f 1 0;debt e f 1 0;").settle());
        // 1, 2, 4, 8, 16, less 31: no lesser set comes out even
        Check.is(5, Check.of(six + "debt f a 1 0;debt f b 2 0;debt f c 4 0;debt f d 8 0;debt f e 16 0;").settle());
        // a chain: only its ends have something to pay or get
        Check.is(1, Check.of(six + "debt a b 5 0;debt b c 5 0;debt c d 5 0;").settle());
    }

    private static void which() {
        Check.about("25 which");
        DebtTable t = Check.of(THREE);
        Check.is(NONE, t.which());
        Check.is(19, Check.which(t, 0, 0));
        Check.is(0, t.count(4));
        Check.is(17, Check.which(t, 1, 1));
        Check.is(2, Check.which(t, 2, 15));
        Check.is(17, Check.which(t, 3, 10));
        Check.is(14, Check.which(t, 4, 0));
        Check.is(16, Check.which(t, 4, 2));
        Check.is(16, Check.which(t, 3, 10, 2, 5));
        Check.is(0, Check.which(t, 0, 0, 0, 1));
        Check.is(0, Check.which(t, 0, 255));
        Check.is(19, Check.which(t, 0, 0, 0, 0, 0, 0, 0, 0, 0, 0, 0, 0, 0, 0, 0, 0));
        Check.is(NONE, Check.which(t, 0, 0, 0, 0, 0, 0, 0, 0, 0, 0, 0, 0, 0, 0, 0, 0, 0, 0));
        Check.is(NONE, Check.which(t, 5, 0));
        Check.is(NONE, Check.which(t, 0, 7, 255, 0));
        Check.is(NONE, Check.which(t, 0));
        Check.is(NONE, Check.which(t, 0, 0, 1));
        Check.is(0, t.count(4));
        t.forgive(1);
        // one that is not open is none, and those behind it have moved up
        Check.is(17, Check.which(t, 0, 0));
        Check.is(0, Check.which(t, 2, 0));
        Check.is(13, Check.which(t, 4, 0));
        Check.is(0, Check.which(t, 4, 255));
        DebtTable u = Check.of(TWO + "debt a b 200 0;");
        Check.is(1, Check.which(u, 2, 200));
        // all twelve
        u = Check.of(TWO + repeat("debt a b 1 0;", 12));
        Check.is(4095, Check.which(u, 0, 0, 1, 1, 2, 1, 3, 0));
        Check.is(4, u.ask());
        Check.is(2048, Check.which(u, 4, 11));
    }

    private static void ask() {
        Check.about("26 ask");
        DebtTable t = Check.of(THREE);
        Check.is(NONE, t.ask());
        Check.which(t, 0, 9);
        Check.is(NONE, t.ask());
        Check.which(t, 0, 0);
        Check.is(2, t.ask());
        Check.which(t, 2, 5);
        Check.is(0, t.ask());
        Check.which(t, 0, 0);
        Check.which(t, 0, 9);
        Check.which(t, 9, 9);
        Check.is(2, t.ask());
        // as it was then, whatever is so now
        Check.shire(t, TWO);
        Check.is(2, t.ask());
        // all alike but for where they sit
        t = Check.of(TWO + "debt a b 1 1;debt a b 1 1;debt a b 1 1;");
        Check.is(7, Check.which(t, 0, 0));
        Check.is(4, t.ask());
        t = Check.of("house a 1 1 1;house b 1 1 1;house c 1 1 1;debt a b 1 1;debt a c 1 2;debt a b 1 3;debt a c 1 3;");
        // to whom: 2 and 2; ages: 1, 1, 2; chairs: each its own
        Check.is(15, Check.which(t, 0, 0));
        Check.is(4, t.ask());
        Check.is(12, Check.which(t, 3, 3));
        Check.is(1, t.ask());
        t = Check.of("house a 1 1 1;house b 1 1 1;house c 1 1 1;debt a b 1 1;debt b c 1 2;debt c a 1 3;debt c a 1 9;");
        // 0: two of c; 1: two to a; 2: all; 3: each its own
        Check.is(15, Check.which(t, 2, 1));
        Check.is(3, t.ask());
    }

    private static void fullest() {
        Check.about("27 fullest");
        Check.is(0, Check.of(TWO).fullest());
        Check.is(0, Check.of(THREE).fullest());
        DebtTable t = Check.of("house a 9 0 3;house b 9 0 2;house c 9 0 4;debt a b 1 0;debt b a 1 0;debt c a 1 0;"
                + "debt c a 1 0;");
        // 1/3, 1/2, 2/4
        Check.is(1, t.fullest());
        t.borrow(2, 0, 1);
        Check.is(2, t.fullest());
        t.borrow(0, 1, 1);
        t.borrow(0, 1, 1);
        Check.is(0, t.fullest());
        for (int d = 0; d < 7; d++) {
            t.forgive(d);
        }
        Check.is(0, t.fullest());
    }

    private static void mean() {
        Check.about("28 mean");
        DebtTable t = Check.of(THREE);
        Check.is(20, t.mean(0, 0));
        Check.is(1, t.mean(0, 1));
        Check.is(3, t.mean(1, 0));
        t.forgive(0);
        Check.is(25, t.mean(0, 0));
        t.borrow(0, 2, 1);
        // 40, 10, 0
        Check.is(50, t.mean(0, 0));
        Check.is(3, t.mean(0, 1));
        t.borrow(0, 2, 1);
        Check.is(25, t.mean(0, 0));
        Check.is(2, t.mean(0, 1));
        Check.isNoSuchElement(() -> t.mean(0, 2));
        Check.isNoSuchElement(() -> t.mean(0, -1));
        Check.isNoSuchElement(() -> t.mean(3, 0));
        Check.isNoSuchElement(() -> t.mean(-1, 0));
        t.forgive(2);
        Check.isNoSuchElement(() -> t.mean(1, 0));
        // nothing by three
        DebtTable u = Check.of(TWO + "debt a b 1 0;debt a b 1 0;debt a b 1 0;");
        Check.is(0, u.mean(0, 0));
        Check.is(1, u.mean(0, 1));
    }

    private static void line() {
        Check.about("29, 30 line, byteAt");
        DebtTable t = Check.of(THREE);
        Check.is(NONE, t.byteAt(0));
        Check.is(NONE, t.line(5));
        Check.is(NONE, t.line(-1));
        Check.isText("ash owes elm 20 of 10", Check.line(t, 0));
        Check.is(NONE, t.byteAt(21));
        Check.is(NONE, t.byteAt(-1));
        Check.is(NONE, t.line(5));
        Check.is('a', t.byteAt(0));
        Check.isText("oak owes ash 8 of 7", Check.line(t, 3));
        t.forgive(1);
        Check.isText("ash owes oak paid", Check.line(t, 1));
        t.borrow(1, 2, 3);
        Check.isText("elm owes oak 3 of 0", Check.line(t, 5));
        t.sell(5, 0);
        // the latest line is told anew only by line()
        Check.is(19, t.line(5));
        Check.isText("elm owes ash 3 of 0", Check.line(t, 5));
        DebtTable u = Check.of("house abcdefg 1 1 1;house z 1 1 1;debt abcdefg z 200 99;grows 9 1;");
        for (int i = 0; i < 7; i++) {
            u.years(60);
        }
        Check.isText("abcdefg owes z 3800 of 499", Check.line(u, 0));
        u = Check.of("house abcdefg 1 1 1;house z 1 1 1;debt abcdefg z 200 0;grows 8 1;");
        u.years(60);
        u.years(40);
        Check.isText("abcdefg owes z 1000 of 100", Check.line(u, 0));
        for (int i = 0; i < 5; i++) {
            u.years(50);
        }
        Check.isText("abcdefg owes z 3000 of 350", Check.line(u, 0));
        Check.shire(u, TWO);
        Check.is(NONE, u.line(0));
        Check.is('g', u.byteAt(6));
    }

    private static void drawn() {
        Check.about("31 drawn");
        DebtTable t = Check.of(THREE);
        Check.is(NONE, t.drawn(0, 1));
        Check.is(NONE, t.drawn(61, 1));
        Check.is(NONE, t.drawn(-1, 1));
        Check.is(1, t.drawn(1, 1));
        Check.is(1, t.now(0));
        Check.is(0, t.undo());
        // seed by seed: what a house does in a shire of two, by draws made here
        for (int seed = -300; seed < 300; seed++) {
            drawnBySeed(seed);
        }
        DebtTable u = new DebtTable();
        Check.is(60, u.drawn(60, 5));
        Check.is(60, u.now(0));
    }

    private static void drawnBySeed(int seed) {
        DebtTable t = Check.of("house a 15 1 1;house b 15 2 1;house c 9 0 1;debt a b 12 4;debt b a 6 4;grows 0 1;");
        DebtTable u = Check.of("house a 15 1 1;house b 15 2 1;house c 9 0 1;debt a b 12 4;debt b a 6 4;grows 0 1;");
        int[] x = {seed};
        for (int year = 0; year < 3; year++) {
            for (int h = 0; h < 3; h++) {
                int act = draw(x, 6);
                if (act == 0) {
                    int g = draw(x, 3);
                    u.borrow(h, g, draw(x, 20) + 1);
                } else if (act == 1 || act == 2) {
                    int d = draw(x, u.count(1));
                    u.pay(d, draw(x, 20) + 1);
                } else if (act == 3) {
                    u.sell(draw(x, u.count(1)), h);
                }
            }
            u.years(1);
        }
        Check.is(3, t.drawn(3, seed));
        for (int what = 0; what < 7; what++) {
            Check.is(u.now(what), t.now(what));
        }
        for (int h = 0; h < 3; h++) {
            Check.is(u.house(h, 0), t.house(h, 0));
        }
        for (int d = 0; d < 12; d++) {
            Check.is(u.debt(d, 1), t.debt(d, 1));
            Check.is(u.debt(d, 2), t.debt(d, 2));
        }
    }

    private static int draw(int[] x, int n) {
        x[0] = x[0] * 1103515245 + 12345;
        return (x[0] >>> 8) % n;
    }

    private static void odds() {
        Check.about("32 odds");
        DebtTable t = Check.of(THREE);
        Check.is(NONE, t.odds(3, 1, 1));
        Check.is(NONE, t.odds(-1, 1, 1));
        Check.is(NONE, t.odds(0, 0, 1));
        Check.is(NONE, t.odds(0, 31, 1));
        int[] first = {0, -7, 12345, Integer.MAX_VALUE - 3};
        for (int seed : first) {
            for (int h = 0; h < 3; h++) {
                int broke = 0;
                for (int i = 0; i < 8; i++) {
                    DebtTable u = Check.of(THREE);
                    u.drawn(20, seed + i);
                    broke += u.now(5) >> h & 1;
                }
                Check.is(broke, t.odds(h, 8, seed));
            }
        }
        Check.is(0, t.now(0));
        Check.is(60, t.now(2));
        Check.is(NONE, t.undo());
        // no years are left: as it is now
        DebtTable u = Check.of("house a 0 0 1;house b 9 0 1;debt a b 1 0;");
        for (int i = 0; i < 7; i++) {
            u.years(60);
        }
        Check.is(30, u.odds(0, 30, 3));
        Check.is(0, u.odds(1, 30, 3));
    }

    private static void book() {
        Check.about("33 book");
        DebtTable t = Check.of(THREE);
        String lines = "pay 0 5;elm borrows 7 oak;sell 0 oak;forgive 4;clear 1 3;year 60;";
        Check.is(NONE, Check.book(t, 0, lines));
        Check.is(0, t.count(4));
        Check.is(0, t.now(0));
        Check.is(60, t.now(2));
        Check.is(NONE, t.undo());
        Check.is(NONE, Check.book(t, 1, lines));
        Check.is(60, t.now(0));
        Check.is(6, t.count(1));
        Check.is(5, t.now(4));
        Check.is(2, t.debt(0, 1));
        Check.is(0, t.debt(3, 2));
        Check.is(0, t.undo());

        // up to the line that is wrong
        Check.is(1, Check.book(t, 1, "pay 0 1;pay 0 999;pay 0 1;"));
        Check.is(1, t.now(4));
        Check.is(0, Check.book(t, 1, "clear 0 1;pay 0 1;"));
        Check.is(1, t.now(4));
        Check.is(NONE, Check.book(t, 1, ""));

        // another lives: the tape stays
        t.feed(0, 0, 0, 0, 0);
        Check.is(-1000, t.book(2));
        Check.is(-1000, t.book(-1));
        Check.is(20, t.count(4));
        Check.is(-2, t.book(0));
        Check.is(0, t.count(4));

        // 40 lines
        Check.is(NONE, Check.book(t, 1, repeat("year 1;", 40)));
        Check.is(40, t.now(0));
    }

    private static void bookFault(int place, int kind, String text) {
        DebtTable t = Check.of(THREE);
        Check.isFault(t, place, kind, Check.book(t, 1, text), -2);
        Check.is(0, t.now(0));
        Check.is(0, t.now(4));
        Check.is(NONE, t.told(0));
        Check.is(0, t.count(4));
    }

    private static void bookFaults() {
        Check.about("33 faults of a book");
        bookFault(0, 1, ";");
        bookFault(0, 1, "house");
        bookFault(0, 1, "borrows 1 ash;");
        bookFault(0, 1, "3;");
        bookFault(3, 1, "pay");
        bookFault(4, 1, "pay ash 1;");
        bookFault(5, 1, "pay 0;");
        bookFault(7, 1, "pay 0 1");
        bookFault(8, 1, "pay 0 1 1;");
        bookFault(7, 1, "sell 0 pay;");
        bookFault(7, 1, "sell 0 1;");
        bookFault(4, 1, "ash pay 1 elm;");
        bookFault(4, 1, "ash elm;");
        bookFault(12, 1, "ash borrows ash 1;");
        bookFault(8, 1, "forgive x;");
        bookFault(15, 1, "pay 0 1;pay 0 1");
        bookFault(4, 2, "pay 12 1;");
        bookFault(6, 2, "pay 0 0;");
        bookFault(12, 2, "ash borrows 0 elm;");
        bookFault(12, 2, "ash borrows 201 elm;");
        bookFault(5, 2, "sell 12 ash;");
        bookFault(8, 2, "forgive 12;");
        bookFault(6, 2, "clear 12 0;");
        bookFault(8, 2, "clear 0 12;");
        bookFault(5, 2, "year 0;");
        bookFault(5, 2, "year 61;");
        bookFault(0, 3, "yew borrows 1 ash;");
        bookFault(0, 3, "yew ;");
        bookFault(14, 3, "ash borrows 1 yew;");
        bookFault(14, 3, "ash borrows 1 ash;");
        bookFault(7, 3, "sell 0 yew;");
        String forty = repeat("year 1;", 40);
        bookFault(280, 4, forty + "year 1;");
        bookFault(281, 4, forty + " ash");
        bookFault(280, 3, forty + "yew");
        bookFault(280, 1, forty + ";");
        bookFault(280, 1, forty + "house");
        bookFault(280, 1, forty + "7");
        // one that is faulty is not lived at all, and what was told stays
        DebtTable t = Check.of(THREE);
        Check.book(t, 1, "pay 0 3;");
        Check.is(-2 - 8, Check.book(t, 1, "pay 0 1;x"));
        Check.is(3, t.now(4));
        Check.is(1, t.told(1));
    }

    private static void toldOf(DebtTable t, String text, int why, int lines, int year, int left) {
        Check.is(why == 0 ? NONE : lines, Check.book(t, 0, text));
        Check.is(why, t.told(0));
        Check.is(lines, t.told(1));
        Check.is(year, t.told(2));
        Check.is(left, t.told(3));
    }

    private static void told() {
        Check.about("34 told");
        DebtTable t = Check.of(THREE);
        Check.is(NONE, t.told(0));
        Check.book(t, 0, "x");
        Check.book(t, 3, "x");
        Check.is(NONE, t.told(1));
        toldOf(t, "", 0, 0, 0, 60);
        toldOf(t, "pay 0 5;year 4;", 0, 2, 4, 55 + 10);
        toldOf(t, "year 1;forgive 0;pay 0 1;", 1, 2, 1, 40);
        toldOf(t, "pay 0 21;", 2, 0, 0, 60);
        toldOf(t, "pay 2 11;", 3, 0, 0, 60);
        toldOf(t, "pay 5 1;", 9, 0, 0, 60);
        toldOf(t, "elm borrows 1 ash;elm borrows 31 ash;", 12, 1, 0, 61);
        toldOf(t, repeat("elm borrows 1 ash;", 8), 11, 7, 0, 67);
        toldOf(t, "forgive 0;sell 0 oak;", 21, 1, 0, 40);
        toldOf(t, "sell 0 elm;", 22, 0, 0, 60);
        toldOf(t, "sell 0 ash;", 23, 0, 0, 60);
        toldOf(t, "sell 1 elm;", 24, 0, 0, 60);
        toldOf(t, "sell 5 elm;", 29, 0, 0, 60);
        toldOf(t, "forgive 0;forgive 0;", 31, 1, 0, 40);
        toldOf(t, "forgive 11;", 39, 0, 0, 60);
        toldOf(t, "forgive 0;clear 0 1;", 41, 1, 0, 40);
        toldOf(t, "clear 0 0;", 42, 0, 0, 60);
        toldOf(t, "clear 0 5;", 49, 0, 0, 60);
        toldOf(t, "clear 5 0;", 49, 0, 0, 60);
        toldOf(t, "forgive 0;clear 0 9;", 49, 1, 0, 40);
        // a debt that a line of the book itself makes
        toldOf(t, "elm borrows 3 ash;pay 5 3;", 0, 2, 0, 60);
        Check.is(NONE, t.told(-1));
        Check.is(NONE, t.told(4));
        t = Check.of(TWO);
        toldOf(t, repeat("year 60;", 7), 51, 6, 360, 0);
        toldOf(t, repeat("year 60;", 6) + "year 40;", 0, 7, 400, 0);
        toldOf(t, repeat("year 60;", 6) + "year 41;", 51, 6, 360, 0);
        toldOf(t, repeat("year 50;", 8) + "year 1;", 51, 8, 400, 0);
        // of what is told nothing changes by other calls
        Check.shire(t, THREE);
        Check.is(51, t.told(0));
        Check.is(400, t.told(2));
        Check.is(-1000, t.book(9));
        Check.is(51, t.told(0));
    }

    private static void sentence() {
        Check.about("35 sentence");
        DebtTable t = Check.of(THREE);
        Check.is(1, Check.sentence(t, "free"));
        Check.is(0, t.count(4));
        Check.is(2, Check.sentence(t, "not free"));
        Check.is(2, Check.sentence(t, "(free)"));
        Check.is(2, Check.sentence(t, "free or broke"));
        Check.is(5, Check.sentence(t, "not(free or broke)and owes elm"));
        Check.is(1, Check.sentence(t, "coins>999"));
        Check.is(1, Check.sentence(t, "number = 000"));
        Check.is(20, Check.sentence(t, repeat("free or ", 19) + "free"));
        Check.is(8, Check.sentence(t, repeat("not ", 7) + "free"));
        Check.is(8, Check.sentence(t, repeat("(", 7) + "free" + repeat(")", 7)));
        // a fault: it stays
        Check.sentence(t, "number>0");
        Check.is(-5, Check.sentence(t, "free)"));
        Check.is(2, t.said(NONE));
        Check.is(0, t.count(4));
    }

    private static void sentenceFault(int place, int kind, String text) {
        DebtTable t = Check.of(THREE);
        Check.isFault(t, place, kind, Check.sentence(t, text), -1);
        Check.is(NONE, t.said(NONE));
    }

    private static void sentenceFaults() {
        Check.about("35 faults of a sentence");
        sentenceFault(0, 1, "");
        sentenceFault(2, 1, " \n");
        sentenceFault(0, 1, "ash");
        sentenceFault(0, 1, "house");
        sentenceFault(0, 1, ")");
        sentenceFault(0, 1, "and free");
        sentenceFault(5, 1, "free free");
        sentenceFault(4, 1, "free;");
        sentenceFault(5, 1, "free .");
        sentenceFault(7, 1, "free or");
        sentenceFault(8, 1, "free or or free");
        sentenceFault(3, 1, "not");
        sentenceFault(5, 1, "(free");
        sentenceFault(1, 1, "()");
        sentenceFault(4, 1, "free)");
        sentenceFault(5, 1, "owes free");
        sentenceFault(5, 1, "owes 3");
        sentenceFault(5, 3, "owes yew");
        sentenceFault(5, 1, "coins");
        sentenceFault(6, 1, "coins 3");
        sentenceFault(6, 1, "coins<<3");
        sentenceFault(6, 1, "coins<a");
        sentenceFault(6, 1, "coins<1000");
        sentenceFault(6, 1, "coins<");
        sentenceFault(5, 1, "coins(3");
        sentenceFault(8, 1, "coins<3 <4");
        sentenceFault(160, 4, repeat("free or ", 20) + "free");
        sentenceFault(161, 4, repeat("free or ", 20) + " coins");
        sentenceFault(160, 1, repeat("free or ", 20) + "ash");
        sentenceFault(160, 1, repeat("free or ", 20) + ")");
        sentenceFault(32, 4, repeat("not ", 8) + "free");
        sentenceFault(32, 1, repeat("not ", 8) + "x");
        sentenceFault(8, 4, repeat("(", 9));
        sentenceFault(8, 4, repeat("(", 8) + "owes yew");
        sentenceFault(7, 1, repeat("(", 7) + ")");
    }

    private static void saidOf(DebtTable t, String text, int... houses) {
        if (Check.sentence(t, text) < 1) {
            Check.fail("not a sentence: " + text);
        }
        Check.is(houses.length, t.said(NONE));
        for (int k = 0; k < houses.length; k++) {
            Check.is(houses[k], t.said(k));
        }
        Check.is(NONE, t.said(houses.length));
    }

    private static void said() {
        Check.about("36 said");
        DebtTable t = Check.of(THREE + "house yew 0 0 1;");
        Check.is(NONE, t.said(NONE));
        Check.is(NONE, t.said(0));
        saidOf(t, "free", 3);
        saidOf(t, "broke", 0, 1);
        saidOf(t, "full", 0, 1);
        saidOf(t, "ringed", 0, 1, 2);
        saidOf(t, "owes elm", 0);
        saidOf(t, "owes oak", 0, 1);
        saidOf(t, "owes yew");
        saidOf(t, "coins<30", 1, 3);
        saidOf(t, "coins=30", 0);
        saidOf(t, "coins>30", 2);
        saidOf(t, "debts=0", 3);
        saidOf(t, "debts>1", 0);
        saidOf(t, "debts<2", 1, 2, 3);
        saidOf(t, "chairs=1", 1, 3);
        saidOf(t, "chairs>1", 0, 2);
        saidOf(t, "chairs<3", 0, 1, 3);
        saidOf(t, "number=2", 2);
        saidOf(t, "number>1", 2, 3);
        saidOf(t, "number<1", 0);
        saidOf(t, "not free", 0, 1, 2);
        saidOf(t, "not not free", 3);
        // and binds closer than or, not closest
        saidOf(t, "free or broke and number=1", 1, 3);
        saidOf(t, "(free or broke) and number=1", 1);
        saidOf(t, "number=1 and broke or free", 1, 3);
        saidOf(t, "not free and number=3 or number=0", 0);
        saidOf(t, "not(free and number=3)or number=0", 0, 1, 2);
        saidOf(t, "number=0 or number=1 or number=2 and free", 0, 1);
        saidOf(t, "number>0 and number<3 and not full", 2);
        Check.is(NONE, t.said(-2));
        Check.is(NONE, t.said(Integer.MIN_VALUE));
        Check.is(NONE, t.said(Integer.MAX_VALUE));
        // it is said of what is so now
        saidOf(t, "free", 3);
        t.forgive(2);
        Check.is(2, t.said(NONE));
        Check.is(1, t.said(0));
        DebtTable u = new DebtTable();
        saidOf(u, "free");
    }

    private static void image() {
        Check.about("37, 38 image, restore");
        DebtTable t = Check.of(THREE);
        Check.is(false, t.image(2));
        Check.is(false, t.image(-1));
        Check.is(false, t.restore(0));
        Check.is(false, t.restore(2));
        Check.is(false, t.restore(-1));
        t.pay(1, 5);
        Check.sentence(t, "free");
        Check.is(true, t.image(0));
        Check.is(false, t.restore(1));
        // what is told last, which a restore leaves
        t.able(0);
        t.ring(0);
        t.line(0);
        Check.which(t, 0, 0);
        Check.book(t, 0, "pay 0 1;");
        Check.shire(t, TWO + "grows 3 3;house c 1 1 1;debt b c 9 9;");
        Check.is(true, t.image(1));
        t.years(9);
        Check.sentence(t, "x");
        t.feed(1, 2, 3, 4, 5);
        Check.is(true, t.restore(0));
        Check.is(NONE, t.undo());
        Check.is(20, t.count(4));
        Check.is(1, t.fault());
        Check.is(5, t.count(1));
        Check.is(2, t.count(2));
        Check.is(4, t.count(3));
        Check.is(0, t.now(0));
        Check.is(5, t.now(4));
        Check.is(10, t.debt(1, 2));
        Check.is(0, t.said(NONE));
        Check.is(18, t.ableOf());
        Check.is(2, t.ringAt(1));
        Check.is('a', t.byteAt(0));
        Check.is(2, t.ask());
        Check.is(1, t.told(1));
        Check.isText("ash owes elm 20 of 10", Check.line(t, 0));
        // the other place, without a sentence; an image stays as it was, whatever is done behind it
        t.years(5);
        Check.is(true, t.restore(1));
        Check.is(3, t.count(0));
        Check.is(3, t.count(2));
        Check.is(NONE, t.said(NONE));
        t.borrow(0, 1, 5);
        Check.sentence(t, "coins>0");
        Check.is(true, t.restore(1));
        Check.is(1, t.count(1));
        Check.is(NONE, t.said(NONE));
        // a place is taken again
        Check.is(true, t.image(0));
        Check.is(true, t.restore(0));
        Check.isText("b owes c 9 of 9", Check.line(t, 0));
        // an image leaves what can be undone
        t.forgive(0);
        t.image(1);
        Check.is(0, t.undo());
        DebtTable u = new DebtTable();
        Check.is(true, u.image(0));
        Check.shire(u, THREE);
        Check.is(true, u.restore(0));
        Check.is(0, u.count(0));
    }

    private static void count() {
        Check.about("39 count");
        DebtTable t = Check.of(THREE);
        t.forgive(0);
        t.feed(1, 2, 3, 4, 5);
        int[] due = {3, 5, 2, 4, 20};
        for (int what = 0; what < due.length; what++) {
            Check.is(due[what], t.count(what));
        }
        Check.is(NONE, t.count(-1));
        Check.is(NONE, t.count(5));
    }
}
