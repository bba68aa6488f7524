import java.util.NoSuchElementException;

/** A shire of houses that owe one another: the oldest open debt of each house sits at the top of its table. */
public final class DebtTable {
    public static final int NONE = -1;

    private static final int MOST_HOUSES = 6;
    private static final int MOST_DEBTS = 12;
    private static final int MOST_COINS = 9999;
    private static final int MOST_AGE = 999;
    private static final int LAST_YEAR = 400;
    private static final int MOST_YEARS_A_CALL = 60;
    private static final int MOST_PAID_AT_ONCE = 999;
    private static final int MOST_LENT_AT_ONCE = 200;

    private static final int MOST_TAPE = 940;
    private static final int BYTES_A_FEED = 20;
    private static final int SHIRE_BYTES = 900;
    private static final int BOOK_BYTES = 400;
    private static final int SENTENCE_BYTES = 200;

    private static final int MOST_LINES = 40;
    private static final int MOST_ONES = 20;
    private static final int MOST_WITHIN = 8;
    private static final int MOST_LETTERS = 7;
    private static final int MOST_DIGITS = 3;
    private static final int MOST_PAIRS = 8;
    private static final int TRAITS = 5;

    private static final int KEPT_ACTS = 8;
    private static final int IMAGES = 2;
    private static final int MOST_SEEDS = 30;
    private static final int YEARS_A_SEED = 20;
    private static final int MOST_YEARS_AHEAD = 99;
    private static final int WRONG_LIVES = -1000;

    // the kinds of FAULTS
    private static final int CANT_COME = 1;
    private static final int WRONG_NUMBER = 2;
    private static final int WRONG_NAME = 3;
    private static final int TOO_MANY = 4;

    private final Tape tape = new Tape();
    private final Shire state = new Shire();
    private final Shire spare = new Shire();
    private final Past past = new Past();
    private final Web web = new Web();
    private final Ledger ledger = new Ledger();
    private final Line latestLine = new Line();
    private Sentence spoken = new Sentence();
    private Sentence spareSentence = new Sentence();
    private final Shire[] keptShires = new Shire[IMAGES];
    private final Sentence[] keptSentences = new Sentence[IMAGES];
    private final boolean[] isKept = new boolean[IMAGES];
    private final int[] traitRow = new int[MOST_DEBTS];
    private int latestFault = 0;
    private int latestAble = NONE;
    private int latestAsk = NONE;

    public DebtTable() {
        for (int k = 0; k < IMAGES; k++) {
            keptShires[k] = new Shire();
            keptSentences[k] = new Sentence();
        }
    }

    // ---- the tape and the texts

    public int feed(int a, int b, int c, int d, int e) {
        if (tape.length + BYTES_A_FEED > MOST_TAPE) {
            return NONE;
        }
        tape.put(a);
        tape.put(b);
        tape.put(c);
        tape.put(d);
        tape.put(e);
        return tape.length;
    }

    public boolean end(int n) {
        if (n < 0 || n > tape.length) {
            return false;
        }
        tape.length = n;
        return true;
    }

    public int shire() {
        tape.begin(SHIRE_BYTES);
        int lines = new ShireReader(tape, spare).read();
        closeText();
        if (lines < 0) {
            return -1 - tape.faultPlace;
        }
        state.become(spare);
        spoken.length = 0;
        past.forget();
        return lines;
    }

    public int fault() {
        return latestFault;
    }

    private void closeText() {
        latestFault = tape.fault;
        tape.length = 0;
    }

    // ---- what is so

    public int house(int h, int what) throws NoSuchElementException {
        if (!state.hasHouse(h)) {
            throw new NoSuchElementException("no such house");
        }
        switch (what) {
            case 0: return state.coins[h];
            case 1: return state.income[h];
            case 2: return state.chairs[h];
            case 3: return state.owedBy(h);
            case 4: return state.owedTo(h);
            case 5: return state.openBits(h);
            case 6: return Math.max(0, state.openCount(h) - state.chairs[h]);
            default: throw new NoSuchElementException("no such fact of a house");
        }
    }

    public int worth(int h) throws NoSuchElementException {
        if (!state.hasHouse(h)) {
            throw new NoSuchElementException("no such house");
        }
        return state.coins[h] + state.owedTo(h) - state.owedBy(h);
    }

    public int debt(int d, int what) {
        return state.hasDebt(d) ? state.traitOf(d, what) : NONE;
    }

    public int at(int h, int k) {
        if (!state.hasHouse(h) || k < 0 || k >= state.chairs[h]) {
            return NONE;
        }
        return state.debtInPlace(h, k);
    }

    public int now(int what) {
        switch (what) {
            case 0: return state.year;
            case 1: return state.allCoins();
            case 2: return state.allLeft();
            case 3: return state.allOpenBits();
            case 4: return state.paid;
            case 5: return state.brokeBits();
            case 6: return web.ringedBits(state);
            default: return NONE;
        }
    }

    public int count(int what) {
        switch (what) {
            case 0: return state.houses;
            case 1: return state.debts;
            case 2: return state.growCoins;
            case 3: return state.growYears;
            case 4: return tape.length;
            default: return NONE;
        }
    }

    // ---- acts

    public int pay(int d, int n) {
        if (!state.hasDebt(d) || n < 1 || n > MOST_PAID_AT_ONCE) {
            return NONE;
        }
        spare.become(state);
        return keptIfDone(state.payOff(d, n));
    }

    public int borrow(int h, int g, int n) {
        if (!state.hasHouse(h) || !state.hasHouse(g) || h == g || n < 1 || n > MOST_LENT_AT_ONCE) {
            return NONE;
        }
        spare.become(state);
        return keptIfDone(state.takeLoan(h, g, n));
    }

    public int sell(int d, int h) {
        if (!state.hasDebt(d) || !state.hasHouse(h)) {
            return NONE;
        }
        spare.become(state);
        return keptIfDone(state.handOver(d, h));
    }

    public int forgive(int d) {
        if (!state.hasDebt(d)) {
            return NONE;
        }
        spare.become(state);
        return keptIfDone(state.strikeOut(d));
    }

    public int clear(int d, int e) {
        if (!state.hasDebt(d) || !state.hasDebt(e)) {
            return NONE;
        }
        spare.become(state);
        return keptIfDone(state.setOff(d, e));
    }

    /** The acts leave what was so ahead of them in spare; it is kept only if the act was done. */
    private int keptIfDone(int whyNot) {
        if (whyNot == 0) {
            past.keep(spare);
        }
        return whyNot;
    }

    public int years(int n) {
        if (n < 1 || n > MOST_YEARS_A_CALL) {
            return NONE;
        }
        int going = Math.min(n, state.yearsLeft());
        if (going > 0) {
            past.keep(state);
        }
        for (int i = 0; i < going; i++) {
            state.passYear();
        }
        return going;
    }

    public int undo() {
        return past.bringBack(state) ? past.size : NONE;
    }

    public int drawn(int n, int seed) {
        if (n < 1 || n > MOST_YEARS_A_CALL) {
            return NONE;
        }
        spare.become(state);
        int went = state.drawYears(n, new Draw(seed));
        if (went > 0) {
            past.keep(spare);
        }
        return went;
    }

    public int odds(int h, int n, int seed) {
        if (!state.hasHouse(h) || n < 1 || n > MOST_SEEDS) {
            return NONE;
        }
        Draw draw = new Draw(seed);
        int broke = 0;
        for (int i = 0; i < n; i++) {
            spare.become(state);
            draw.x = seed + i;
            spare.drawYears(YEARS_A_SEED, draw);
            if (spare.isBroke(h)) {
                broke++;
            }
        }
        return broke;
    }

    // ---- what is asked of houses and debts

    public int top(int d) {
        if (!state.hasDebt(d) || !state.isOpen(d)) {
            return NONE;
        }
        return state.leftAheadOf(d);
    }

    public int able(int h) {
        if (!state.hasHouse(h)) {
            return NONE;
        }
        latestAble = state.ableBits(h);
        return Integer.bitCount(latestAble);
    }

    public int ableOf() {
        return latestAble;
    }

    public int meets(int h) {
        if (!state.hasHouse(h)) {
            return NONE;
        }
        spare.become(state);
        for (int went = 0; went <= MOST_YEARS_AHEAD; went++) {
            if (spare.isBroke(h)) {
                return went;
            }
            spare.passYear();
        }
        return NONE;
    }

    public int ring(int h) {
        if (!state.hasHouse(h)) {
            return NONE;
        }
        return web.findRing(state, h) ? web.foundLength : NONE;
    }

    public int ringAt(int k) {
        return k >= 0 && k < web.foundLength ? web.found[k] : NONE;
    }

    public int settle() {
        return web.fewestPayments(state);
    }

    public int fullest() {
        if (state.houses == 0) {
            return NONE;
        }
        int best = 0;
        for (int h = 1; h < state.houses; h++) {
            // as fractions, each by the other's chairs
            if (state.openCount(h) * state.chairs[best] > state.openCount(best) * state.chairs[h]) {
                best = h;
            }
        }
        return best;
    }

    public int mean(int h, int what) throws NoSuchElementException {
        if (!state.hasHouse(h) || what < 0 || what > 1) {
            throw new NoSuchElementException("no such house or number");
        }
        int below = state.openCount(h);
        if (below < 1) {
            throw new NoSuchElementException("the house has no open debt");
        }
        int above = state.openAges(h);
        int common = commonDivisor(above, below);
        return (what == 0 ? above : below) / common;
    }

    private static int commonDivisor(int above, int below) {
        for (int divisor = below; divisor > 1; divisor--) {
            if (above % divisor == 0 && below % divisor == 0) {
                return divisor;
            }
        }
        return 1;
    }

    // ---- which debt is meant

    public int which() {
        int bits = meantBits();
        tape.length = 0;
        if (bits > 0) {
            latestAsk = bestQuestion(bits);
        }
        return bits;
    }

    public int ask() {
        return latestAsk;
    }

    private int meantBits() {
        int pairs = tape.length / 2;
        if (tape.length % 2 != 0 || pairs < 1 || pairs > MOST_PAIRS) {
            return NONE;
        }
        int bits = state.allOpenBits();
        for (int i = 0; i < pairs; i++) {
            int trait = tape.byteIn(2 * i);
            if (trait >= TRAITS) {
                return NONE;
            }
            bits &= bitsWith(trait, tape.byteIn(2 * i + 1));
        }
        return bits;
    }

    private int bitsWith(int trait, int number) {
        int bits = 0;
        for (int d = 0; d < state.debts; d++) {
            if (state.traitOf(d, trait) == number) {
                bits |= 1 << d;
            }
        }
        return bits;
    }

    private int bestQuestion(int bits) {
        int best = 0;
        int least = MOST_DEBTS + 1;
        for (int trait = 0; trait < TRAITS; trait++) {
            int greatest = greatestAlike(bits, trait);
            if (greatest < least) {
                least = greatest;
                best = trait;
            }
        }
        return best;
    }

    /** The greatest number of debts among bits that are alike in a trait. */
    private int greatestAlike(int bits, int trait) {
        int among = 0;
        for (int d = 0; d < state.debts; d++) {
            if ((bits >> d & 1) == 1) {
                traitRow[among] = state.traitOf(d, trait);
                among++;
            }
        }
        int greatest = 0;
        for (int i = 0; i < among; i++) {
            int alike = 0;
            for (int j = 0; j < among; j++) {
                if (traitRow[j] == traitRow[i]) {
                    alike++;
                }
            }
            greatest = Math.max(greatest, alike);
        }
        return greatest;
    }

    // ---- lines

    public int line(int d) {
        if (!state.hasDebt(d)) {
            return NONE;
        }
        latestLine.tell(state, d);
        return latestLine.length;
    }

    public int byteAt(int i) {
        return latestLine.byteIn(i);
    }

    // ---- books

    public int book(int lives) {
        if (lives != 0 && lives != 1) {
            return WRONG_LIVES;
        }
        tape.begin(BOOK_BYTES);
        boolean isRead = ledger.read(tape, state);
        closeText();
        if (!isRead) {
            return -2 - tape.faultPlace;
        }
        spare.become(state);
        ledger.judge(spare);
        if (lives == 1 && ledger.rightLines > 0) {
            past.keep(state);
            state.become(spare);
        }
        return ledger.whyWrong == 0 ? NONE : ledger.rightLines;
    }

    public int told(int what) {
        if (!ledger.isJudged) {
            return NONE;
        }
        switch (what) {
            case 0: return ledger.whyWrong;
            case 1: return ledger.rightLines;
            case 2: return ledger.yearThen;
            case 3: return ledger.leftThen;
            default: return NONE;
        }
    }

    // ---- sentences

    public int sentence() {
        tape.begin(SENTENCE_BYTES);
        spareSentence.length = 0;
        SentenceReader reader = new SentenceReader(tape, state, spareSentence);
        boolean isRead = reader.readCondition(1) && tape.takeEnd();
        closeText();
        if (!isRead) {
            return -1 - tape.faultPlace;
        }
        Sentence old = spoken;
        spoken = spareSentence;
        spareSentence = old;
        return reader.ones;
    }

    public int said(int k) {
        if (spoken.length == 0 || k < NONE) {
            return NONE;
        }
        int ringed = web.ringedBits(state);
        int number = 0;
        for (int h = 0; h < state.houses; h++) {
            if (spoken.holdsOf(state, h, ringed)) {
                if (number == k) {
                    return h;
                }
                number++;
            }
        }
        return k == NONE ? number : NONE;
    }

    // ---- images

    public boolean image(int k) {
        if (k < 0 || k >= IMAGES) {
            return false;
        }
        keptShires[k].become(state);
        keptSentences[k].become(spoken);
        isKept[k] = true;
        return true;
    }

    public boolean restore(int k) {
        if (k < 0 || k >= IMAGES || !isKept[k]) {
            return false;
        }
        state.become(keptShires[k]);
        spoken.become(keptSentences[k]);
        past.forget();
        return true;
    }

    /** The words that no house may bear. */
    private enum Word {
        HOUSE("house"), DEBT("debt"), GROWS("grows"),
        PAY("pay"), BORROWS("borrows"), SELL("sell"), FORGIVE("forgive"), CLEAR("clear"), YEAR("year"),
        OR("or"), AND("and"), NOT("not"),
        FREE("free"), BROKE("broke"), FULL("full"), RINGED("ringed"), OWES("owes"),
        COINS("coins"), DEBTS("debts"), CHAIRS("chairs"), NUMBER("number");

        private static final Word[] ALL = values();

        private final long letters;

        Word(String text) {
            long packed = 0;
            for (int i = 0; i < text.length(); i++) {
                packed = packed << 8 | text.charAt(i);
            }
            this.letters = packed;
        }

        /** The word of these letters (packed, the last one lowest), or null. */
        static Word of(long letters) {
            for (int i = 0; i < ALL.length; i++) {
                if (ALL[i].letters == letters) {
                    return ALL[i];
                }
            }
            return null;
        }

        boolean isPlainOne() {
            return this == FREE || this == BROKE || this == FULL || this == RINGED;
        }

        boolean isMeasure() {
            return this == COINS || this == DEBTS || this == CHAIRS || this == NUMBER;
        }
    }

    /** The bytes that came, read token by token; it keeps the first fault. */
    private static final class Tape {
        private static final int END = 0;
        private static final int NO_TOKEN = 1;
        private static final int WORD = 2;
        private static final int NAME = 3;
        private static final int DIGITS = 4;
        private static final int MARK = 5;

        private final byte[] bytes = new byte[MOST_TAPE];
        private int length = 0;
        private int limit = 0;
        private int behind = 0;

        // the token that is looked at
        private int sort = END;
        private int place = 0;
        private Word word = null;
        private long letters = 0;
        private int number = 0;

        // the latest number or house that was taken
        private int taken = 0;

        private int fault = 0;
        private int faultPlace = 0;

        void put(int fourBytes) {
            for (int shift = 24; shift >= 0; shift -= 8) {
                if (length < MOST_TAPE) {
                    bytes[length] = (byte) (fourBytes >>> shift);
                    length++;
                }
            }
        }

        int byteIn(int i) {
            return i >= 0 && i < length ? bytes[i] & 255 : NONE;
        }

        void begin(int mostBytes) {
            limit = mostBytes;
            behind = 0;
            fault = 0;
            faultPlace = 0;
            advance();
        }

        /** Looks at the next token. */
        void advance() {
            word = null;
            skipBlanks();
            place = behind;
            if (length > limit && place >= limit) {
                sort = NO_TOKEN;
                place = limit;
            } else if (place >= length) {
                sort = END;
            } else if (readRun()) {
                word = sort == NAME ? Word.of(letters) : null;
                sort = word == null ? sort : WORD;
            } else {
                readMark();
            }
        }

        private void skipBlanks() {
            while (behind < length && (bytes[behind] == ' ' || bytes[behind] == '\n')) {
                behind++;
            }
        }

        /** Reads small letters and digits as far as they go; false, if there is none. */
        private boolean readRun() {
            int letterCount = 0;
            int digitCount = 0;
            letters = 0;
            number = 0;
            for (; behind < length; behind++) {
                int sign = bytes[behind];
                if (sign >= 'a' && sign <= 'z') {
                    letterCount++;
                    letters = letters << 8 | sign;
                } else if (sign >= '0' && sign <= '9') {
                    digitCount++;
                    number = number * 10 + sign - '0';
                } else {
                    break;
                }
            }
            if (digitCount == 0 && letterCount <= MOST_LETTERS) {
                sort = NAME;
            } else if (letterCount == 0 && digitCount <= MOST_DIGITS) {
                sort = DIGITS;
            } else {
                sort = NO_TOKEN;
            }
            return letterCount + digitCount > 0;
        }

        private void readMark() {
            sort = NO_TOKEN;
            if (behind < length) {
                number = bytes[behind];
                behind++;
                if (number == ';' || number == '(' || number == ')' || number >= '<' && number <= '>') {
                    sort = MARK;
                }
            }
        }

        boolean isAtEnd() {
            return sort == END;
        }

        boolean isName() {
            return sort == NAME;
        }

        boolean isMark(char mark) {
            return sort == MARK && number == mark;
        }

        /** Notes a fault at the token that is looked at; false, so that readers can hand it on. */
        boolean fail(int kind) {
            fault = kind;
            faultPlace = place;
            return false;
        }

        boolean takeMark(char mark) {
            if (!isMark(mark)) {
                return fail(CANT_COME);
            }
            advance();
            return true;
        }

        boolean takeEnd() {
            return isAtEnd() || fail(CANT_COME);
        }

        boolean takeSign() {
            if (!isMark('<') && !isMark('=') && !isMark('>')) {
                return fail(CANT_COME);
            }
            taken = number;
            advance();
            return true;
        }

        boolean takeWord(Word due) {
            if (word != due) {
                return fail(CANT_COME);
            }
            advance();
            return true;
        }

        boolean takeNumber(int least, int most) {
            if (sort != DIGITS) {
                return fail(CANT_COME);
            }
            if (number < least || number > most) {
                return fail(WRONG_NUMBER);
            }
            taken = number;
            advance();
            return true;
        }

        /** Takes a house of the shire other than one (NONE: whichever it is). */
        boolean takeHouse(Shire shire, int other) {
            if (sort != NAME) {
                return fail(CANT_COME);
            }
            int h = shire.houseNamed(letters);
            if (h == NONE || h == other) {
                return fail(WRONG_NAME);
            }
            taken = h;
            advance();
            return true;
        }
    }

    /** All that is so at one time: a copy of it is enough to come back to that time. */
    private static final class Shire {
        private final long[] name = new long[MOST_HOUSES];
        private final int[] coins = new int[MOST_HOUSES];
        private final int[] income = new int[MOST_HOUSES];
        private final int[] chairs = new int[MOST_HOUSES];
        private final int[] debtor = new int[MOST_DEBTS];
        private final int[] creditor = new int[MOST_DEBTS];
        private final int[] left = new int[MOST_DEBTS];
        private final int[] age = new int[MOST_DEBTS];
        private int houses = 0;
        private int debts = 0;
        private int growCoins = 1;
        private int growYears = 5;
        private int year = 0;
        private int paid = 0;

        void makeEmpty() {
            houses = 0;
            debts = 0;
            growCoins = 1;
            growYears = 5;
            year = 0;
            paid = 0;
        }

        void become(Shire other) {
            System.arraycopy(other.name, 0, name, 0, MOST_HOUSES);
            System.arraycopy(other.coins, 0, coins, 0, MOST_HOUSES);
            System.arraycopy(other.income, 0, income, 0, MOST_HOUSES);
            System.arraycopy(other.chairs, 0, chairs, 0, MOST_HOUSES);
            System.arraycopy(other.debtor, 0, debtor, 0, MOST_DEBTS);
            System.arraycopy(other.creditor, 0, creditor, 0, MOST_DEBTS);
            System.arraycopy(other.left, 0, left, 0, MOST_DEBTS);
            System.arraycopy(other.age, 0, age, 0, MOST_DEBTS);
            houses = other.houses;
            debts = other.debts;
            growCoins = other.growCoins;
            growYears = other.growYears;
            year = other.year;
            paid = other.paid;
        }

        boolean hasHouse(int h) {
            return h >= 0 && h < houses;
        }

        boolean hasDebt(int d) {
            return d >= 0 && d < debts;
        }

        int houseNamed(long letters) {
            for (int h = 0; h < houses; h++) {
                if (name[h] == letters) {
                    return h;
                }
            }
            return NONE;
        }

        void addHouse(long letters, int itsCoins, int itsIncome, int itsChairs) {
            if (houses < MOST_HOUSES) {
                name[houses] = letters;
                coins[houses] = itsCoins;
                income[houses] = itsIncome;
                chairs[houses] = itsChairs;
                houses++;
            }
        }

        void addDebt(int h, int g, int sum, int years) {
            if (debts < MOST_DEBTS) {
                debtor[debts] = h;
                creditor[debts] = g;
                left[debts] = sum;
                age[debts] = years;
                debts++;
            }
        }

        // ---- debts at their tables

        boolean isOpen(int d) {
            return left[d] > 0;
        }

        private boolean isOpenOf(int h, int d) {
            return debtor[d] == h && left[d] > 0;
        }

        private boolean sitsAhead(int d, int e) {
            return isOpenOf(debtor[e], d) && (age[d] > age[e] || age[d] == age[e] && d < e);
        }

        int placeOf(int d) {
            if (!isOpen(d)) {
                return NONE;
            }
            int ahead = 0;
            for (int e = 0; e < debts; e++) {
                if (sitsAhead(e, d)) {
                    ahead++;
                }
            }
            return ahead;
        }

        int leftAheadOf(int d) {
            int sum = 0;
            for (int e = 0; e < debts; e++) {
                if (sitsAhead(e, d)) {
                    sum += left[e];
                }
            }
            return sum;
        }

        int debtInPlace(int h, int k) {
            for (int d = 0; d < debts; d++) {
                if (isOpenOf(h, d) && placeOf(d) == k) {
                    return d;
                }
            }
            return NONE;
        }

        int traitOf(int d, int trait) {
            switch (trait) {
                case 0: return debtor[d];
                case 1: return creditor[d];
                case 2: return left[d];
                case 3: return age[d];
                case 4: return placeOf(d);
                default: return NONE;
            }
        }

        // ---- sums

        int owedBy(int h) {
            int sum = 0;
            for (int d = 0; d < debts; d++) {
                if (debtor[d] == h) {
                    sum += left[d];
                }
            }
            return sum;
        }

        int owedTo(int h) {
            int sum = 0;
            for (int d = 0; d < debts; d++) {
                if (creditor[d] == h) {
                    sum += left[d];
                }
            }
            return sum;
        }

        int openBits(int h) {
            int bits = 0;
            for (int d = 0; d < debts; d++) {
                if (isOpenOf(h, d)) {
                    bits |= 1 << d;
                }
            }
            return bits;
        }

        int openCount(int h) {
            return Integer.bitCount(openBits(h));
        }

        int openAges(int h) {
            int sum = 0;
            for (int d = 0; d < debts; d++) {
                if (isOpenOf(h, d)) {
                    sum += age[d];
                }
            }
            return sum;
        }

        boolean isBroke(int h) {
            return owedBy(h) > coins[h];
        }

        boolean owesTo(int h, int g) {
            for (int d = 0; d < debts; d++) {
                if (isOpenOf(h, d) && creditor[d] == g) {
                    return true;
                }
            }
            return false;
        }

        int brokeBits() {
            int bits = 0;
            for (int h = 0; h < houses; h++) {
                if (isBroke(h)) {
                    bits |= 1 << h;
                }
            }
            return bits;
        }

        int allOpenBits() {
            int bits = 0;
            for (int d = 0; d < debts; d++) {
                if (isOpen(d)) {
                    bits |= 1 << d;
                }
            }
            return bits;
        }

        int allLeft() {
            int sum = 0;
            for (int d = 0; d < debts; d++) {
                sum += left[d];
            }
            return sum;
        }

        int allCoins() {
            int sum = 0;
            for (int h = 0; h < houses; h++) {
                sum += coins[h];
            }
            return sum;
        }

        /** The least debts first, of like ones the lesser number: the most, at least cost, with the least bits. */
        int ableBits(int h) {
            int bits = 0;
            int purse = coins[h];
            for (int i = 0; i < debts; i++) {
                int least = leastOpen(h, bits);
                if (least == NONE || left[least] > purse) {
                    return bits;
                }
                purse -= left[least];
                bits |= 1 << least;
            }
            return bits;
        }

        private int leastOpen(int h, int without) {
            int least = NONE;
            for (int d = 0; d < debts; d++) {
                boolean isIn = isOpenOf(h, d) && (without >> d & 1) == 0;
                if (isIn && (least == NONE || left[d] < left[least])) {
                    least = d;
                }
            }
            return least;
        }

        // ---- acts: each answers 0, or why it is not done

        int payOff(int d, int n) {
            if (!isOpen(d)) {
                return 1;
            }
            if (n > left[d]) {
                return 2;
            }
            if (n > coins[debtor[d]]) {
                return 3;
            }
            left[d] -= n;
            moveCoins(debtor[d], creditor[d], n);
            paid += n;
            return 0;
        }

        int takeLoan(int h, int g, int n) {
            if (debts >= MOST_DEBTS) {
                return 1;
            }
            if (n > coins[g]) {
                return 2;
            }
            moveCoins(g, h, n);
            addDebt(h, g, n, 0);
            return 0;
        }

        int handOver(int d, int h) {
            if (!isOpen(d)) {
                return 1;
            }
            if (creditor[d] == h) {
                return 2;
            }
            if (debtor[d] == h) {
                return 3;
            }
            if (left[d] > coins[h]) {
                return 4;
            }
            moveCoins(h, creditor[d], left[d]);
            creditor[d] = h;
            return 0;
        }

        int strikeOut(int d) {
            if (!isOpen(d)) {
                return 1;
            }
            left[d] = 0;
            return 0;
        }

        int setOff(int d, int e) {
            if (!isOpen(d) || !isOpen(e)) {
                return 1;
            }
            // no house owes itself, so a debt is never set off against itself
            if (debtor[d] != creditor[e] || debtor[e] != creditor[d]) {
                return 2;
            }
            int lesser = Math.min(left[d], left[e]);
            left[d] -= lesser;
            left[e] -= lesser;
            return 0;
        }

        private void moveCoins(int from, int to, int n) {
            coins[from] -= n;
            coins[to] += n;
        }

        // ---- years

        int yearsLeft() {
            return Math.max(0, LAST_YEAR - year);
        }

        /** It does not look at the last year: who looks ahead goes beyond it. */
        void passYear() {
            for (int h = 0; h < houses; h++) {
                // payments may have brought more than the most: those stay
                if (coins[h] < MOST_COINS) {
                    coins[h] = Math.min(MOST_COINS, coins[h] + income[h]);
                }
            }
            year++;
            boolean grows = growYears > 0 && year % growYears == 0;
            for (int d = 0; d < debts; d++) {
                if (left[d] > 0) {
                    age[d] = Math.min(MOST_AGE, age[d] + 1);
                    if (grows) {
                        left[d] = Math.min(MOST_COINS, left[d] + growCoins);
                    }
                }
            }
        }

        int drawYears(int n, Draw draw) {
            int going = Math.min(n, yearsLeft());
            for (int i = 0; i < going; i++) {
                for (int h = 0; h < houses; h++) {
                    drawAct(h, draw);
                }
                passYear();
            }
            return going;
        }

        private void drawAct(int h, Draw draw) {
            int act = draw.of(6);
            if (act == 0) {
                int lender = draw.of(houses);
                int sum = draw.of(20) + 1;
                if (lender != h) {
                    takeLoan(h, lender, sum);
                }
            } else if ((act == 1 || act == 2) && debts > 0) {
                int d = draw.of(debts);
                payOff(d, draw.of(20) + 1);
            } else if (act == 3 && debts > 0) {
                handOver(draw.of(debts), h);
            }
        }
    }

    /** Draws by a seed. */
    private static final class Draw {
        private int x;

        Draw(int seed) {
            x = seed;
        }

        int of(int n) {
            x = x * 1103515245 + 12345;
            return n > 0 ? (x >>> 8) % n : 0;
        }
    }

    /** Reads a SHIRE from the tape. */
    private static final class ShireReader {
        private final Tape tape;
        private final Shire into;
        private boolean grows = false;

        ShireReader(Tape tape, Shire into) {
            this.tape = tape;
            this.into = into;
        }

        /** How many lines; NONE at a fault. */
        int read() {
            into.makeEmpty();
            for (int lines = 0; lines < MOST_TAPE; lines++) {
                if (tape.isAtEnd()) {
                    return lines;
                }
                if (!readLine() || !tape.takeMark(';')) {
                    return NONE;
                }
            }
            return NONE;
        }

        private boolean readLine() {
            if (tape.word == Word.HOUSE) {
                return readHouse();
            }
            if (tape.word == Word.DEBT) {
                return readDebt();
            }
            if (tape.word == Word.GROWS) {
                return readGrows();
            }
            return tape.fail(CANT_COME);
        }

        private boolean readHouse() {
            if (into.houses >= MOST_HOUSES) {
                return tape.fail(TOO_MANY);
            }
            tape.advance();
            if (!tape.isName()) {
                return tape.fail(CANT_COME);
            }
            long letters = tape.letters;
            if (into.houseNamed(letters) != NONE) {
                return tape.fail(WRONG_NAME);
            }
            tape.advance();
            if (!tape.takeNumber(0, 999)) {
                return false;
            }
            int coins = tape.taken;
            if (!tape.takeNumber(0, 30)) {
                return false;
            }
            int income = tape.taken;
            if (!tape.takeNumber(1, 6)) {
                return false;
            }
            into.addHouse(letters, coins, income, tape.taken);
            return true;
        }

        private boolean readDebt() {
            if (into.debts >= MOST_DEBTS) {
                return tape.fail(TOO_MANY);
            }
            tape.advance();
            if (!tape.takeHouse(into, NONE)) {
                return false;
            }
            int debtor = tape.taken;
            if (!tape.takeHouse(into, debtor)) {
                return false;
            }
            int creditor = tape.taken;
            if (!tape.takeNumber(1, 200)) {
                return false;
            }
            int sum = tape.taken;
            if (!tape.takeNumber(0, 99)) {
                return false;
            }
            into.addDebt(debtor, creditor, sum, tape.taken);
            return true;
        }

        private boolean readGrows() {
            if (grows) {
                return tape.fail(WRONG_NAME);
            }
            grows = true;
            tape.advance();
            if (!tape.takeNumber(0, 9)) {
                return false;
            }
            into.growCoins = tape.taken;
            if (!tape.takeNumber(1, 30)) {
                return false;
            }
            into.growYears = tape.taken;
            return true;
        }
    }

    /** The lines of a BOOK, and how the latest one that had no fault was judged. */
    private static final class Ledger {
        // each act by what its reasons are counted from
        private static final int PAY = 0;
        private static final int BORROW = 10;
        private static final int SELL = 20;
        private static final int FORGIVE = 30;
        private static final int CLEAR = 40;
        private static final int YEAR = 50;
        private static final int NO_SUCH_DEBT = 9;

        private final int[] act = new int[MOST_LINES];
        private final int[] first = new int[MOST_LINES];
        private final int[] second = new int[MOST_LINES];
        private final int[] third = new int[MOST_LINES];
        private int lines = 0;

        private boolean isJudged = false;
        private int whyWrong = 0;
        private int rightLines = 0;
        private int yearThen = 0;
        private int leftThen = 0;

        boolean read(Tape tape, Shire shire) {
            lines = 0;
            for (int i = 0; i < MOST_TAPE; i++) {
                if (tape.isAtEnd()) {
                    return true;
                }
                if (!readLine(tape, shire) || !tape.takeMark(';')) {
                    return false;
                }
            }
            return false;
        }

        private boolean readLine(Tape tape, Shire shire) {
            int kind = tape.isName() ? BORROW : actOf(tape.word);
            if (kind == NONE) {
                return tape.fail(CANT_COME);
            }
            // a name that is not told is the lesser fault than a line too many
            if (kind == BORROW && shire.houseNamed(tape.letters) == NONE) {
                return tape.fail(WRONG_NAME);
            }
            if (lines >= MOST_LINES) {
                return tape.fail(TOO_MANY);
            }
            if (kind == BORROW) {
                return readBorrow(tape, shire);
            }
            tape.advance();
            boolean isTaken = kind == YEAR
                    ? tape.takeNumber(1, MOST_YEARS_A_CALL) : tape.takeNumber(0, MOST_DEBTS - 1);
            int yearsOrDebt = tape.taken;
            if (!isTaken || !takeSecond(tape, shire, kind)) {
                return false;
            }
            addLine(kind, yearsOrDebt, tape.taken, 0);
            return true;
        }

        private static int actOf(Word word) {
            if (word == Word.PAY) {
                return PAY;
            }
            if (word == Word.SELL) {
                return SELL;
            }
            if (word == Word.FORGIVE) {
                return FORGIVE;
            }
            if (word == Word.CLEAR) {
                return CLEAR;
            }
            return word == Word.YEAR ? YEAR : NONE;
        }

        private static boolean takeSecond(Tape tape, Shire shire, int kind) {
            switch (kind) {
                case PAY: return tape.takeNumber(1, MOST_PAID_AT_ONCE);
                case SELL: return tape.takeHouse(shire, NONE);
                case CLEAR: return tape.takeNumber(0, MOST_DEBTS - 1);
                default: return true;
            }
        }

        private boolean readBorrow(Tape tape, Shire shire) {
            if (!tape.takeHouse(shire, NONE)) {
                return false;
            }
            int borrower = tape.taken;
            if (!tape.takeWord(Word.BORROWS) || !tape.takeNumber(1, MOST_LENT_AT_ONCE)) {
                return false;
            }
            int sum = tape.taken;
            if (!tape.takeHouse(shire, borrower)) {
                return false;
            }
            addLine(BORROW, borrower, tape.taken, sum);
            return true;
        }

        private void addLine(int kind, int one, int two, int three) {
            if (lines < MOST_LINES) {
                act[lines] = kind;
                first[lines] = one;
                second[lines] = two;
                third[lines] = three;
                lines++;
            }
        }

        /** Lives the book in a shire, up to the first line that is wrong. */
        void judge(Shire shire) {
            isJudged = true;
            whyWrong = 0;
            rightLines = 0;
            for (int i = 0; i < lines && whyWrong == 0; i++) {
                whyWrong = liveLine(shire, i);
                if (whyWrong == 0) {
                    rightLines++;
                }
            }
            yearThen = shire.year;
            leftThen = shire.allLeft();
        }

        private int liveLine(Shire shire, int i) {
            int kind = act[i];
            int why = 0;
            if (kind == BORROW) {
                why = shire.takeLoan(first[i], second[i], third[i]);
            } else if (kind == YEAR) {
                why = liveYears(shire, first[i]);
            } else {
                why = liveDebt(shire, kind, first[i], second[i]);
            }
            return why == 0 ? 0 : kind + why;
        }

        private static int liveYears(Shire shire, int n) {
            if (n > shire.yearsLeft()) {
                return 1;
            }
            for (int i = 0; i < n; i++) {
                shire.passYear();
            }
            return 0;
        }

        private static int liveDebt(Shire shire, int kind, int d, int other) {
            if (!shire.hasDebt(d) || kind == CLEAR && !shire.hasDebt(other)) {
                return NO_SUCH_DEBT;
            }
            switch (kind) {
                case PAY: return shire.payOff(d, other);
                case SELL: return shire.handOver(d, other);
                case FORGIVE: return shire.strikeOut(d);
                default: return shire.setOff(d, other);
            }
        }
    }

    /** A SENTENCE as steps, each behind what it is about: 'a or not b' is a, b, not, or. */
    private static final class Sentence {
        // of n ones that are no brackets, at most n - 1 are joined
        private static final int MOST_STEPS = 2 * MOST_ONES;

        private final Word[] word = new Word[MOST_STEPS];
        private final int[] sign = new int[MOST_STEPS];
        private final int[] number = new int[MOST_STEPS];
        private int length = 0;

        void add(Word itsWord, int itsSign, int itsNumber) {
            if (length < MOST_STEPS) {
                word[length] = itsWord;
                sign[length] = itsSign;
                number[length] = itsNumber;
                length++;
            }
        }

        void become(Sentence other) {
            length = 0;
            for (int i = 0; i < other.length; i++) {
                add(other.word[i], other.sign[i], other.number[i]);
            }
        }

        boolean holdsOf(Shire shire, int h, int ringed) {
            // what is so far true or not, as bits, the latest lowest
            int stack = 0;
            for (int i = 0; i < length; i++) {
                int latest = stack & 1;
                if (word[i] == Word.NOT) {
                    stack ^= 1;
                } else if (word[i] == Word.AND) {
                    stack = stack >>> 1 & (latest | ~1);
                } else if (word[i] == Word.OR) {
                    stack = stack >>> 1 | latest;
                } else if (word[i] == Word.RINGED) {
                    stack = stack << 1 | ringed >> h & 1;
                } else {
                    stack = stack << 1 | (isSo(i, shire, h) ? 1 : 0);
                }
            }
            return stack == 1;
        }

        private boolean isSo(int i, Shire shire, int h) {
            Word one = word[i];
            if (one == null) {
                return false;
            }
            switch (one) {
                case FREE: return shire.openBits(h) == 0;
                case BROKE: return shire.isBroke(h);
                case FULL: return shire.openCount(h) >= shire.chairs[h];
                case OWES: return shire.owesTo(h, number[i]);
                case COINS: return compares(shire.coins[h], i);
                case DEBTS: return compares(shire.openCount(h), i);
                case CHAIRS: return compares(shire.chairs[h], i);
                case NUMBER: return compares(h, i);
                default: return false;
            }
        }

        private boolean compares(int measure, int i) {
            if (sign[i] == '<') {
                return measure < number[i];
            }
            return sign[i] == '=' ? measure == number[i] : measure > number[i];
        }
    }

    /** Reads a SENTENCE from the tape. */
    private static final class SentenceReader {
        private final Tape tape;
        private final Shire shire;
        private final Sentence into;
        private int ones = 0;

        SentenceReader(Tape tape, Shire shire, Sentence into) {
            this.tape = tape;
            this.shire = shire;
            this.into = into;
        }

        /** A COND whose ONES are so many within one another. */
        boolean readCondition(int depth) {
            if (!readAll(depth)) {
                return false;
            }
            for (int i = 0; i < MOST_ONES && tape.word == Word.OR; i++) {
                tape.advance();
                if (!readAll(depth)) {
                    return false;
                }
                into.add(Word.OR, 0, 0);
            }
            return true;
        }

        private boolean readAll(int depth) {
            if (!readOne(depth)) {
                return false;
            }
            for (int i = 0; i < MOST_ONES && tape.word == Word.AND; i++) {
                tape.advance();
                if (!readOne(depth)) {
                    return false;
                }
                into.add(Word.AND, 0, 0);
            }
            return true;
        }

        private boolean readOne(int depth) {
            if (!isOne()) {
                return tape.fail(CANT_COME);
            }
            if (ones >= MOST_ONES || depth > MOST_WITHIN) {
                return tape.fail(TOO_MANY);
            }
            ones++;
            Word word = tape.word;
            tape.advance();
            // a bracket is the only one that begins by no word
            if (word == null) {
                return readCondition(depth + 1) && tape.takeMark(')');
            }
            if (word == Word.NOT) {
                if (!readOne(depth + 1)) {
                    return false;
                }
                into.add(Word.NOT, 0, 0);
                return true;
            }
            return readPlain(word);
        }

        private boolean isOne() {
            Word word = tape.word;
            if (word == null) {
                return tape.isMark('(');
            }
            return word == Word.NOT || word == Word.OWES || word.isPlainOne() || word.isMeasure();
        }

        private boolean readPlain(Word word) {
            if (word == Word.OWES) {
                if (!tape.takeHouse(shire, NONE)) {
                    return false;
                }
                into.add(word, 0, tape.taken);
                return true;
            }
            if (word.isPlainOne()) {
                into.add(word, 0, 0);
                return true;
            }
            if (!tape.takeSign()) {
                return false;
            }
            int sign = tape.taken;
            if (!tape.takeNumber(0, 999)) {
                return false;
            }
            into.add(word, sign, tape.taken);
            return true;
        }
    }

    /** What was so ahead of the latest acts. */
    private static final class Past {
        private final Shire[] kept = new Shire[KEPT_ACTS];
        private int next = 0;
        private int size = 0;

        Past() {
            for (int i = 0; i < KEPT_ACTS; i++) {
                kept[i] = new Shire();
            }
        }

        void keep(Shire before) {
            kept[next].become(before);
            next = (next + 1) % KEPT_ACTS;
            size = Math.min(KEPT_ACTS, size + 1);
        }

        boolean bringBack(Shire into) {
            if (size == 0) {
                return false;
            }
            next = (next + KEPT_ACTS - 1) % KEPT_ACTS;
            size--;
            into.become(kept[next]);
            return true;
        }

        void forget() {
            size = 0;
        }
    }

    /** The houses as they owe one another: rings, and the payments that would clear all. */
    private static final class Web {
        private static final int SETS = 1 << MOST_HOUSES;

        private final int[] owes = new int[MOST_HOUSES];
        private final int[] steps = new int[MOST_HOUSES];
        private final int[] found = new int[MOST_HOUSES];
        private int foundLength = 0;
        private final int[] sum = new int[SETS];
        private final int[] most = new int[SETS];

        int ringedBits(Shire shire) {
            look(shire);
            int bits = 0;
            for (int h = 0; h < shire.houses; h++) {
                if (ringLength(shire, h) > 0) {
                    bits |= 1 << h;
                }
            }
            return bits;
        }

        /** The latest ring that was found stays, if there is none. */
        boolean findRing(Shire shire, int h) {
            look(shire);
            int length = ringLength(shire, h);
            if (length == 0 || length > MOST_HOUSES) {
                return false;
            }
            int last = h;
            found[0] = h;
            for (int i = 1; i < length; i++) {
                last = leastTowards(shire, last, length - i);
                found[i] = last;
            }
            foundLength = length;
            return true;
        }

        private void look(Shire shire) {
            for (int h = 0; h < MOST_HOUSES; h++) {
                owes[h] = 0;
            }
            for (int d = 0; d < shire.debts; d++) {
                if (shire.isOpen(d)) {
                    owes[shire.debtor[d]] |= 1 << shire.creditor[d];
                }
            }
        }

        /** Goes back from the house and notes how many steps each other one is from it; 0: there is no ring. */
        private int ringLength(Shire shire, int h) {
            for (int g = 0; g < MOST_HOUSES; g++) {
                steps[g] = NONE;
            }
            int latest = 1 << h;
            steps[h] = 0;
            for (int step = 1; step <= shire.houses && latest != 0; step++) {
                if ((owes[h] & latest) != 0) {
                    return step;
                }
                latest = stepBack(shire, latest, step);
            }
            return 0;
        }

        private int stepBack(Shire shire, int latest, int step) {
            int bits = 0;
            for (int g = 0; g < shire.houses; g++) {
                if (steps[g] == NONE && (owes[g] & latest) != 0) {
                    steps[g] = step;
                    bits |= 1 << g;
                }
            }
            return bits;
        }

        private int leastTowards(Shire shire, int from, int stepsLeft) {
            for (int g = 0; g < shire.houses; g++) {
                if ((owes[from] >> g & 1) == 1 && steps[g] == stepsLeft) {
                    return g;
                }
            }
            return from;
        }

        /** A house with nothing to pay or get is a set by itself: it counts on both sides, and so not at all. */
        int fewestPayments(Shire shire) {
            int sets = 1 << shire.houses;
            sum[0] = 0;
            most[0] = 0;
            for (int h = 0; h < shire.houses; h++) {
                int balance = shire.owedTo(h) - shire.owedBy(h);
                for (int set = 1 << h; set < 2 << h && set < SETS; set++) {
                    sum[set] = sum[set - (1 << h)] + balance;
                }
            }
            for (int set = 1; set < sets && set < SETS; set++) {
                most[set] = mostWithoutOne(set) + (sum[set] == 0 ? 1 : 0);
            }
            return shire.houses - most[sets - 1];
        }

        private int mostWithoutOne(int set) {
            int best = 0;
            for (int h = 0; h < MOST_HOUSES; h++) {
                if ((set >> h & 1) == 1) {
                    best = Math.max(best, most[set - (1 << h)]);
                }
            }
            return best;
        }
    }

    /** A debt told as a text. */
    private static final class Line {
        // two names, four digits and three, ' owes ', a blank and ' of '
        private static final int MOST_BYTES = 2 * MOST_LETTERS + 18;

        private final byte[] bytes = new byte[MOST_BYTES];
        private int length = 0;

        void tell(Shire shire, int d) {
            length = 0;
            putName(shire.name[shire.debtor[d]]);
            putText(" owes ");
            putName(shire.name[shire.creditor[d]]);
            if (shire.isOpen(d)) {
                putText(" ");
                putNumber(shire.left[d]);
                putText(" of ");
                putNumber(shire.age[d]);
            } else {
                putText(" paid");
            }
        }

        int byteIn(int i) {
            return i >= 0 && i < length ? bytes[i] : NONE;
        }

        private void putByte(int sign) {
            if (length < MOST_BYTES) {
                bytes[length] = (byte) sign;
                length++;
            }
        }

        private void putText(String text) {
            for (int i = 0; i < text.length(); i++) {
                putByte(text.charAt(i));
            }
        }

        private void putName(long letters) {
            for (int shift = 8 * (MOST_LETTERS - 1); shift >= 0; shift -= 8) {
                int letter = (int) (letters >>> shift & 255);
                if (letter != 0) {
                    putByte(letter);
                }
            }
        }

        private void putNumber(int n) {
            for (int unit = 1000; unit > 0; unit /= 10) {
                if (n >= unit || unit == 1) {
                    putByte('0' + n / unit % 10);
                }
            }
        }
    }
}
