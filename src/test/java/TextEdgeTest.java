/**
 * The bounds that the document names in part 1 of its terms and in promises 1 to 5: of each the value just inside
 * and the one just outside, the empty and the full text, and what stands when a text is refused.
 */
public final class TextEdgeTest {
    private static final int NONE = DebtTable.NONE;
    private static final String THREE = Check.THREE;
    private static final String TWO = Check.TWO;
    private static final String SIX = Check.SIX;
    private static final String TWELVE = "debt a b 1 0;".repeat(12);

    private TextEdgeTest() { }

    public static void main(String[] args) {
        aNewObject();
        feedFull();
        feedOrder();
        end();
        everyByte();
        everyByteForToken();
        wordsAndNumbers();
        tokensOutOfPlace();
        shireEmptyAndFull();
        shireNumbers();
        grows();
        names();
        housesAndDebts();
        shireTooLong();
        shireFaultsInOrder();
        newShire();
        bookEmptyAndFull();
        bookNumbers();
        bookNames();
        bookTooLong();
        sentenceEmptyAndFull();
        sentenceWithin();
        sentenceNumbersAndNames();
        sentenceTooLong();
        fault();
        Check.end();
    }

    // ---- texts on fresh objects, and refused ones on an object on which all is otherwise

    private static void shireIs(int lines, String text) {
        DebtTable t = new DebtTable();
        Check.is(lines, Check.shire(t, text));
        Check.is(0, t.fault());
        Check.is(0, t.count(4));
    }

    private static void shireFault(int place, int kind, String text) {
        Check.refusedText(-1 - place, kind, t -> Check.shire(t, text));
    }

    private static void bookIs(int due, String text) {
        DebtTable t = Check.of(THREE);
        Check.is(due, Check.book(t, 0, text));
        Check.is(0, t.fault());
        Check.is(0, t.count(4));
    }

    private static void bookFault(int place, int kind, String text) {
        Check.refusedText(-2 - place, kind, t -> Check.book(t, 1, text));
        Check.refusedText(-2 - place, kind, t -> Check.book(t, 0, text));
    }

    private static void sentenceIs(int ones, String text) {
        DebtTable t = Check.of(THREE);
        Check.is(ones, Check.sentence(t, text));
        Check.is(0, t.fault());
        Check.is(0, t.count(4));
    }

    private static void sentenceFault(int place, int kind, String text) {
        Check.refusedText(-1 - place, kind, t -> Check.sentence(t, text));
    }

    private static String padded(String s, int length) {
        return s + " ".repeat(length - s.length());
    }

    // ---- the object and its tape

    private static void aNewObject() {
        Check.about("1: a SHIRE without HOUSES; an empty tape");
        DebtTable t = new DebtTable();
        int[] counts = {0, 0, 1, 5, 0};
        for (int what = 0; what < 5; what++) {
            Check.is(counts[what], t.count(what));
        }
        for (int what = 0; what < 7; what++) {
            Check.is(0, t.now(what));
        }
        Check.is(false, t.end(1));
        Check.is(true, t.end(0));
        Check.about("1: nothing was told, no SENTENCE, nothing to undo or to restore");
        Check.is(0, t.fault());
        Check.is(NONE, t.said(NONE));
        Check.is(NONE, t.said(0));
        Check.is(NONE, t.ask());
        Check.is(NONE, t.ableOf());
        Check.is(NONE, t.ringAt(0));
        Check.is(NONE, t.byteAt(0));
        for (int what = 0; what < 4; what++) {
            Check.is(NONE, t.told(what));
        }
        Check.is(NONE, t.undo());
        Check.is(false, t.restore(0));
        Check.is(false, t.restore(1));
        Check.is(NONE, t.fullest());
        Check.is(0, t.settle());
        Check.about("1: each text of an empty tape");
        Check.is(0, t.shire());
        Check.is(NONE, t.which());
        Check.is(NONE, t.book(0));
        Check.is(NONE, t.book(1));
        Check.is(-1, t.sentence());
        Check.is(1, t.fault());
        Check.isNoSuchElement(() -> t.house(0, 0));
        Check.isNoSuchElement(() -> t.worth(0));
        Check.isNoSuchElement(() -> t.mean(0, 0));
    }

    private static DebtTable withTape(int bytes) {
        DebtTable t = new DebtTable();
        for (int i = 0; i < (bytes + 19) / 20; i++) {
            t.feed(0x20202020, 0x20202020, 0x20202020, 0x20202020, 0x20202020);
        }
        t.end(bytes);
        return t;
    }

    private static void feedFull() {
        Check.about("2: none come, if it would have more than 940");
        DebtTable t = new DebtTable();
        for (int i = 1; i <= 47; i++) {
            Check.is(20 * i, t.feed(0, 0, 0, 0, 0));
        }
        Check.is(940, t.count(4));
        Check.is(NONE, t.feed(0, 0, 0, 0, 0));
        Check.is(940, t.count(4));
        Check.is(939, withTape(919).feed(0, 0, 0, 0, 0));
        Check.is(940, withTape(920).feed(0, 0, 0, 0, 0));
        for (int bytes = 921; bytes <= 939; bytes++) {
            DebtTable full = withTape(bytes);
            Check.is(NONE, full.feed(0, 0, 0, 0, 0));
            Check.is(bytes, full.count(4));
            Check.is(NONE, full.feed(-1, -1, -1, -1, -1));
            Check.is(true, full.end(bytes));
            Check.is(false, full.end(bytes + 1));
        }
        // none of its bytes came: the blanks up to the last place are as they were
        DebtTable blank = withTape(900);
        Check.is(920, blank.feed(0x20202020, 0x20202020, 0x20202020, 0x20202020, 0x20202020));
        Check.is(940, blank.feed(0x20202020, 0x20202020, 0x20202020, 0x20202020, 0x20202020));
        Check.is(NONE, blank.feed(0x78787878, 0x78787878, 0x78787878, 0x78787878, 0x78787878));
        blank.end(900);
        Check.is(0, blank.shire());
        // what a reader took away makes room
        DebtTable again = withTape(940);
        again.shire();
        Check.is(20, again.feed(0, 0, 0, 0, 0));
    }

    private static void feedOrder() {
        Check.about("2: of each number the highest first");
        DebtTable t = Check.of("house a 1 1 1;house b 1 1 1;debt a b 200 99;debt b a 5 7;debt a b 7 0;");
        // 2 200, 3 99, 0 0, 1 1, 4 0, 2 200, 3 99, 0 0 in four numbers; 2 200 has the highest bit of a byte
        t.feed(0x02c80363, 0x00000101, 0x040002c8, 0x03630000, 0x7fffffff);
        Check.is(true, t.end(16));
        Check.is(1, t.which());
        t.feed(0xff000000, 0, 0, 0, 0);
        t.end(2);
        Check.is(NONE, t.which());
        // a byte of 255 stays 255
        t.feed(0x00ffffff, -1, -1, -1, -1);
        t.end(2);
        Check.is(0, t.which());
        // behind the tape as it is, what was cut off is gone
        t.feed(0x02050307, 0x05050505, 0, 0, 0);
        t.end(4);
        Check.is(24, t.feed(0x00010100, 0, 0, 0, 0));
        t.end(8);
        Check.is(2, t.which());
        t.feed(0x02070300, 0, 0, 0, 0);
        t.end(3);
        Check.is(23, t.feed(0x00000000, 0, 0, 0, 0));
        t.end(4);
        Check.is(4, t.which());
    }

    private static void end() {
        Check.about("3: false, if it has not so many, or n is below 0");
        for (int bytes : new int[] {0, 1, 20, 21, 939, 940}) {
            for (int n : new int[] {bytes + 1, bytes + 20, -1, -2, Integer.MIN_VALUE, Integer.MAX_VALUE}) {
                DebtTable t = withTape(bytes);
                Check.is(false, t.end(n));
                Check.is(bytes, t.count(4));
            }
            for (int n : new int[] {bytes, Math.max(0, bytes - 1), 0}) {
                DebtTable t = withTape(bytes);
                Check.is(true, t.end(n));
                Check.is(n, t.count(4));
                Check.is(false, t.end(n + 1));
            }
        }
        Check.refused(0, t -> t.end(5) ? 1 : 0);
        Check.refused(0, t -> t.end(-1) ? 1 : 0);
        Check.refused(1, t -> t.end(4) ? 1 : 0);
    }

    // ---- tokens

    private static boolean goesOn(int sign) {
        return sign >= 'a' && sign <= 'z' || sign >= '0' && sign <= '9';
    }

    private static void everyByte() {
        Check.about("TOKENS: which bytes are blanks, go on, are signs");
        for (int sign = 0; sign < 256; sign++) {
            boolean isBlank = sign == 32 || sign == 10;
            DebtTable t = new DebtTable();
            int behind = Check.sentence(t, "free" + (char) sign);
            Check.is(isBlank ? 1 : goesOn(sign) ? -1 : -5, behind);
            Check.is(isBlank ? 0 : 1, t.fault());
            int ahead = Check.sentence(t, (char) sign + "free");
            Check.is(isBlank ? 1 : sign == '(' ? -6 : -1, ahead);
            Check.is(isBlank ? 0 : 1, t.fault());
            // a sign of a measure, and no other
            boolean isSign = sign == '<' || sign == '=' || sign == '>';
            int between = Check.sentence(t, "coins" + (char) sign + "5");
            Check.is(isSign ? 1 : isBlank ? -7 : goesOn(sign) ? -1 : -6, between);
            Check.is(isSign ? 0 : 1, t.fault());
            // what ends a LINE
            int line = Check.shire(t, "grows 1 1" + (char) sign);
            Check.is(sign == ';' ? 1 : isBlank ? -11 : goesOn(sign) && sign > '9' ? -9 : sign >= '0' && sign <= '9'
                    ? -11 : -10, line);
        }
    }

    /** Where a NAME, a NUMBER, a LINE should be, a byte that is none of a TOKEN's is at fault itself. */
    private static void everyByteForToken() {
        Check.about("TOKENS: what is not as told is no TOKEN, wherever it stands");
        for (int sign = 0; sign < 256; sign++) {
            boolean isBlank = sign == 32 || sign == 10;
            boolean isLetter = sign >= 'a' && sign <= 'z';
            boolean isDigit = sign >= '0' && sign <= '9';
            DebtTable t = new DebtTable();
            Check.is(isLetter ? 1 : isBlank ? -9 : -7, Check.shire(t, "house " + (char) sign + " 1 1 1;"));
            Check.is(isLetter ? 0 : 1, t.fault());
            Check.is(isDigit ? 1 : isBlank ? -10 : -7, Check.shire(t, "grows " + (char) sign + " 1;"));
            Check.is(isDigit ? 0 : 1, t.fault());
            t = Check.of(TWO);
            Check.is(sign == 'a' || sign == 'b' ? 1 : isBlank ? -7 : -6, Check.sentence(t, "owes " + (char) sign));
            Check.is(sign == 'a' || sign == 'b' ? 0 : isLetter ? 3 : 1, t.fault());
            Check.is(sign == 'b' ? NONE : isBlank ? -16 : -14, Check.book(t, 0, "a borrows 1 " + (char) sign + " ;"));
            Check.is(sign == 'b' ? 0 : isLetter ? 3 : 1, t.fault());
            int line = Check.book(t, 0, (char) sign + " borrows 1 b;");
            Check.is(sign == 'a' ? NONE : sign == 'b' ? -14 : isBlank ? -4 : -2, line);
            Check.is(sign == 'a' ? 0 : isLetter ? 3 : 1, t.fault());
        }
    }

    private static void wordsAndNumbers() {
        Check.about("TOKENS: WORDS of 1 to 7 small letters");
        shireIs(1, "house a 1 1 1;");
        shireIs(1, "house z 1 1 1;");
        shireIs(1, "house abcdefg 1 1 1;");
        shireFault(6, 1, "house abcdefgh 1 1 1;");
        shireFault(6, 1, "house abcdefghijklmnopqrstuvwxyz 1 1 1;");
        shireFault(6, 1, "house housing8 1 1 1;");
        // two words of which only the eighth letter is another are both none
        shireFault(20, 1, "house a 1 1 1;house abcdefgh 1 1 1;house abcdefgi 1 1 1;");
        Check.about("TOKENS: NUMBERS of 1 to 3 digits");
        for (String number : new String[] {"7", "07", "007"}) {
            DebtTable t = Check.of("house a " + number + " 1 1;");
            Check.is(7, t.house(0, 0));
        }
        Check.is(0, Check.of("house a 000 00 001;").house(0, 0));
        shireFault(8, 1, "house a 0007 1 1;");
        shireFault(8, 1, "house a 00000000000000000000 1 1;");
        shireFault(8, 1, "house a 4294967297 1 1;");
        shireFault(12, 1, "house a 7 7 0001;");
        Check.about("TOKENS: a WORD, NUMBER goes on as long as small letters and digits do");
        shireFault(6, 1, "house a1 1 1 1;");
        shireFault(6, 1, "house 1a 1 1 1;");
        shireFault(6, 1, "house a1b 1 1 1;");
        shireFault(8, 1, "house a 1b 1 1;");
        shireFault(0, 1, "grows1 1;");
        shireFault(0, 1, "1grows 1 1;");
        shireFault(0, 1, "housea 1 1 1;");
        sentenceFault(6, 1, "coins<3and free");
        sentenceFault(0, 1, "notfree");
        sentenceFault(0, 1, "coins3<4");
        Check.about("TOKENS: a run that tells the number of a sign is no sign");
        for (String run : new String[] {"59", "059", "0059", "59a", "a59", "5a9"}) {
            shireFault(10, 1, "grows 1 1 " + run);
            bookFault(7, 1, "year 1 " + run);
        }
        for (String run : new String[] {"60", "61", "62", "0060", "61x", "x62"}) {
            sentenceFault(6, 1, "coins " + run + " 5");
        }
        for (String run : new String[] {"40", "0040", "40x", "x40"}) {
            sentenceFault(0, 1, run + " free)");
        }
        for (String run : new String[] {"41", "0041", "41x", "x41"}) {
            sentenceFault(6, 1, "(free " + run);
        }
        Check.about("TOKENS: with blanks between them or not");
        shireIs(2, "house a 1 1 1;house b 1 1 1;");
        shireIs(2, "\n\nhouse\na\n1\n1\n1\n;\n\nhouse  b  1  1  1  ;\n \n");
        sentenceIs(7, "(not(free)or(coins<3)and broke)");
        sentenceIs(7, " ( not ( free ) or ( coins < 3 ) and broke ) ");
        sentenceFault(7, 1, "coins< <3");
    }

    // ---- SHIRES

    /** A text that is refused by a LINE: the place is counted from the LINE's first byte. */
    private interface Refused {
        void at(int place, int kind, String line);
    }

    private static void tokensOutOfPlace() {
        Check.about("FAULTS 1: a TOKEN of a LINE is left out, told twice, told behind the next");
        for (String line : new String[] {"house c 1 1 1 ;", "debt a b 1 1 ;", "grows 1 1 ;"}) {
            outOfPlace(line, (place, kind, text) -> shireFault(TWO.length() + place, kind, TWO + text));
        }
        for (String line : new String[] {"pay 1 1 ;", "ash borrows 1 elm ;", "sell 1 oak ;", "forgive 1 ;", "clear 1 1 ;",
            "year 1 ;"}) {
            outOfPlace(line, TextEdgeTest::bookFault);
            outOfPlace(line, (place, kind, text) -> bookFault(7 + place, kind, "year 1;" + text));
        }
        Check.about("FAULTS 1: a TOKEN of a SENTENCE is left out, or told twice");
        sentenceFault(0, 1, "< 1");
        sentenceFault(6, 1, "coins 1");
        sentenceFault(7, 1, "coins <");
        sentenceFault(6, 1, "coins coins < 1");
        sentenceFault(8, 1, "coins < < 1");
        sentenceFault(10, 1, "coins < 1 1");
        sentenceFault(0, 1, "ash");
        sentenceFault(5, 1, "owes owes ash");
        sentenceFault(9, 1, "owes ash ash");
        sentenceFault(5, 1, "free free");
        sentenceFault(9, 1, "not free free");
        sentenceFault(8, 1, "free or or free");
        sentenceFault(9, 1, "free and and free");
    }

    /** Each number of the LINE is 1, so that it may stand for each other one. */
    private static void outOfPlace(String line, Refused refused) {
        String[] tokens = line.split(" ");
        int place = 0;
        for (int i = 0; i < tokens.length; i++) {
            String ahead = line.substring(0, place);
            String behind = line.substring(place + tokens[i].length()).trim();
            refused.at(placeLeftOut(tokens, i), 1, ahead + behind);
            // 'debt a a' tells the same HOUSE twice
            boolean isAlike = tokens[0].equals("debt") && i == 1;
            int twice = isAlike ? place + tokens[i].length() + 1 : placeTwice(tokens, i);
            refused.at(twice, isAlike ? 3 : 1, ahead + tokens[i] + " " + tokens[i] + " " + behind);
            if (i + 1 < tokens.length && !isOfSort(tokens[i], tokens[i + 1])) {
                String rest = behind.substring(tokens[i + 1].length());
                refused.at(place, 1, ahead + tokens[i + 1] + " " + tokens[i] + rest);
            }
            place += tokens[i].length() + 1;
        }
    }

    private static boolean isOfSort(String one, String other) {
        return one.equals(other) || isName(one) && isName(other);
    }

    private static boolean isName(String token) {
        return token.matches("[a-z]+") && !Model.WORDS.contains(token);
    }

    /** The first TOKEN behind i that can't stand where the one ahead of it should; the end, if all can. */
    private static int placeLeftOut(String[] tokens, int i) {
        int place = 0;
        for (int j = 0; j < tokens.length; j++) {
            if (j > i && !isOfSort(tokens[j], tokens[j - 1])) {
                return place;
            }
            place += j == i ? 0 : tokens[j].length() + 1;
        }
        return place;
    }

    /** The first TOKEN from i on that can't stand where the next one should; it is told once more ahead of it. */
    private static int placeTwice(String[] tokens, int i) {
        int place = tokens[i].length() + 1;
        for (int j = 0; j < tokens.length; j++) {
            if (j >= i && (j + 1 == tokens.length || !isOfSort(tokens[j], tokens[j + 1]))) {
                return place;
            }
            place += tokens[j].length() + 1;
        }
        return place;
    }

    private static void shireEmptyAndFull() {
        Check.about("4: { LINE ; }: the empty text and the full one");
        shireIs(0, "");
        shireIs(0, " ");
        shireIs(0, "\n\n\n");
        shireIs(0, " ".repeat(900));
        String full = SIX + TWELVE + "grows 9 30;";
        shireIs(19, full);
        shireIs(19, padded(full, 900));
        shireFault(0, 1, ";");
        shireFault(full.length(), 1, full + ";");
        shireFault(full.length(), 3, full + "grows 9 30;");
        shireFault(full.length(), 4, full + "house g 1 1 1;");
        shireFault(full.length(), 4, full + "debt a b 1 0;");
        Check.about("4: each LINE has its ;");
        shireFault(9, 1, "grows 1 1");
        shireFault(12, 1, "grows 1 1   ");
        shireFault(10, 1, "grows 1 1 1;");
        shireFault(10, 1, "grows 1 1 house a 1 1 1;");
    }

    /** Least and most, and what is beyond each: a NUMBER of four digits is no TOKEN. */
    private static void bound(String ahead, String behind, int least, int most) {
        int lines = (int) (ahead + behind).chars().filter(c -> c == ';').count();
        shireIs(lines, ahead + least + behind);
        shireIs(lines, ahead + most + behind);
        if (least > 0) {
            shireFault(ahead.length(), 2, ahead + (least - 1) + behind);
        }
        shireFault(ahead.length(), most == 999 ? 1 : 2, ahead + (most + 1) + behind);
        if (most < 999) {
            shireFault(ahead.length(), 2, ahead + 999 + behind);
        }
    }

    private static void shireNumbers() {
        Check.about("4: COINS 0 to 999");
        bound("house a ", " 0 1;", 0, 999);
        Check.is(999, Check.of("house a 999 0 1;").house(0, 0));
        Check.about("4: INCOME 0 to 30");
        bound("house a 0 ", " 1;", 0, 30);
        Check.is(30, Check.of("house a 0 30 1;").house(0, 1));
        Check.about("4: CHAIRS 1 to 6");
        bound("house a 0 0 ", ";", 1, 6);
        Check.is(6, Check.of("house a 0 0 6;").house(0, 2));
        Check.about("4: SUM 1 to 200");
        bound(TWO + "debt a b ", " 0;", 1, 200);
        Check.is(200, Check.of(TWO + "debt a b 200 0;").debt(0, 2));
        Check.about("4: AGE 0 to 99");
        bound(TWO + "debt a b 1 ", ";", 0, 99);
        Check.is(99, Check.of(TWO + "debt a b 1 99;").debt(0, 3));
        Check.about("4: 'grows' 0 to 9 coins");
        bound("grows ", " 1;", 0, 9);
        Check.is(9, Check.of("grows 9 30;").count(2));
        Check.about("4: 'grows' 1 to 30 YEARS");
        bound("grows 0 ", ";", 1, 30);
        Check.is(30, Check.of("grows 9 30;").count(3));
    }

    private static void grows() {
        Check.about("4: 'grows' once; 1, 5 without");
        DebtTable t = Check.of("grows 0 1;");
        Check.is(0, t.count(2));
        Check.is(1, t.count(3));
        Check.is(1, Check.shire(t, "house a 1 1 1;"));
        Check.is(1, t.count(2));
        Check.is(5, t.count(3));
        shireFault(10, 3, "grows 1 1;grows 1 1;");
        shireFault(13, 3, "grows 1 1; \n grows 1 1;");
        // at the WORD, though what is behind it is wrong too
        shireFault(10, 3, "grows 1 1;grows 99 99;");
        shireFault(10, 3, "grows 1 1;grows");
        // a text that was refused is not the one that told it
        DebtTable u = new DebtTable();
        Check.is(-11, Check.shire(u, "grows 2 2;x"));
        Check.is(1, u.count(2));
        Check.is(1, Check.shire(u, "grows 3 3;"));
        Check.is(3, u.count(2));
    }

    private static void names() {
        Check.about("4: NAME: a WORD, none of those told");
        for (String word : Model.WORDS) {
            shireFault(6, 1, "house " + word + " 1 1 1;");
            shireFault(TWO.length() + 5, 1, TWO + "debt " + word + " a 1 1;");
            shireFault(TWO.length() + 7, 1, TWO + "debt a " + word + " 1 1;");
            bookFault(7, 1, "sell 0 " + word + ";");
            bookFault(14, 1, "ash borrows 1 " + word + ";");
            sentenceFault(5, 1, "owes " + word);
            for (String near : new String[] {word.substring(0, word.length() - 1), word + "s", "x" + word}) {
                if (near.length() <= 7 && !Model.WORDS.contains(near)) {
                    shireIs(1, "house " + near + " 1 1 1;");
                }
            }
        }
        Check.about("FAULTS 3: a NAME told twice");
        shireFault(20, 3, "house a 1 1 1;house a 1 1 1;");
        shireFault(48, 3, "house a 1 1 1;house b 1 1 1;house c 1 1 1;house b 99 99 99;");
        shireIs(3, "house a 1 1 1;house aa 1 1 1;house aaa 1 1 1;");
        shireIs(2, "house abcdefg 1 1 1;house abcdefh 1 1 1;");
        shireIs(2, "house abcdefg 1 1 1;house bbcdefg 1 1 1;");
        Check.about("FAULTS 3: a NAME that is not told");
        int debt = TWO.length() + 5;
        shireFault(5, 3, "debt a b 1 1;");
        shireFault(debt, 3, TWO + "debt c b 1 1;");
        shireFault(debt + 2, 3, TWO + "debt a c 1 1;");
        shireFault(debt, 3, TWO + "debt c c 1 1;");
        shireFault(debt, 3, TWO + "debt c d 1 1;");
        // told behind the DEBT
        shireFault(debt + 2, 3, TWO + "debt a c 1 1;house c 1 1 1;");
        // a NAME of the SHIRE that is now is none of the text's
        shireFault(5, 3, "debt ash elm 1 1;");
        Check.about("FAULTS 3: two HOUSES of a DEBT that are alike, at the second");
        shireFault(debt + 2, 3, TWO + "debt a a 1 1;");
        shireFault(debt + 2, 3, TWO + "debt b b 999 999;");
        shireIs(4, TWO + "debt a b 1 1;debt b a 1 1;");
    }

    private static void housesAndDebts() {
        Check.about("4: 6 HOUSES at most");
        shireIs(6, SIX);
        Check.is(6, Check.of(SIX).count(0));
        shireFault(SIX.length(), 4, SIX + "house g 1 1 1;");
        shireFault(SIX.length() + 1, 4, SIX + "\nhouse");
        shireFault(SIX.length(), 4, SIX + "house a 99 99 99;");
        Check.about("4: 12 DEBTS at most");
        String full = TWO + TWELVE;
        shireIs(14, full);
        Check.is(12, Check.of(full).count(1));
        Check.is(4095, Check.of(full).now(3));
        shireFault(full.length(), 4, full + "debt a b 1 0;");
        shireFault(full.length() + 2, 4, full + "  debt a a 0 999;");
        shireFault(full.length(), 4, full + "debt");
        // others may still come
        shireIs(16, full + "house c 1 1 1;grows 1 1;");
        Check.is(3, Check.of(full + "house c 1 1 1;").count(0));
        Check.is(7, Check.of(full + "house c 7 1 1;").house(2, 0));
        shireIs(7, SIX + "debt a f 1 1;");
        Check.about("4: numbered from 0 each");
        DebtTable t = Check.of("grows 1 1;house a 5 1 1;house b 6 1 1;debt b a 7 1;house c 8 1 1;debt c b 9 1;");
        Check.is(5, t.house(0, 0));
        Check.is(8, t.house(2, 0));
        Check.is(1, t.debt(0, 0));
        Check.is(2, t.debt(1, 0));
        Check.is(1, t.debt(1, 1));
    }

    private static void shireTooLong() {
        Check.about("4: at most 900 bytes");
        String line = "grows 1 1;";
        shireIs(1, padded(line, 899));
        shireIs(1, padded(line, 900));
        shireFault(900, 1, padded(line, 901));
        shireFault(900, 1, padded(line, 940));
        shireFault(900, 1, " ".repeat(901));
        shireIs(1, " ".repeat(890) + line);
        shireFault(900, 1, " ".repeat(891) + line);
        shireFault(900, 1, padded("grows 1 1", 900) + ";");
        shireIs(1, padded("grows 1 1", 899) + ";");
        shireFault(900, 1, padded("grows 1 1", 899) + "; ");
        Check.about("FAULTS 1: the end: how many bytes there are");
        shireFault(9, 1, "grows 1 1");
        shireFault(899, 1, padded("grows 1 1", 899));
        shireFault(900, 1, padded("grows 1 1", 900));
        shireFault(900, 1, padded("grows 1 1", 901));
        Check.about("FAULTS 1: TOKENS that begin ahead of it are read whole");
        // "grows" from 899 on is read as told again; from 900 on it is not looked at
        shireFault(899, 3, padded(line, 899) + "grows 1 1;");
        shireFault(900, 1, padded(line, 900) + "grows 1 1;");
        shireFault(900, 1, padded(line, 899) + "house a 1 1 1;");
        shireFault(899, 1, padded(line, 899) + "housea 1 1 1;");
        shireFault(899, 1, padded(line, 899) + "abcdefghijklmnopqrstuvwxyz");
        shireFault(899, 2, padded("grows 1 ", 899) + "31;");
        shireFault(900, 1, padded("grows 1 ", 899) + "30;");
        shireFault(899, 1, padded("grows 1 ", 899) + "0030;");
        shireFault(899, 1, padded(line, 899) + ".");
        shireFault(900, 1, padded(line, 900) + ".");
        Check.about("FAULTS 1: the most bytes told, if no FAULT is ahead");
        shireFault(6, 1, padded("grows x", 940));
        shireFault(8, 2, padded("grows 1 0", 940));
        shireFault(10, 3, padded("grows 1 1;grows", 940));
        shireFault(SIX.length(), 4, padded(SIX + "house", 940));
        Check.about("FAULTS 1: the most bytes told, whatever should have come there");
        for (String text : new String[] {"", "grows", "grows 0", "grows 0 1", "house", "house a", "house a 99",
            "house a 99 9", "house a 99 9 1", TWO + "debt", TWO + "debt a", TWO + "debt a b", TWO + "debt a b 200"}) {
            shireFault(900, 1, padded(text, 901));
            shireFault(900, 1, padded(text, 900) + "x");
            shireFault(900, 1, padded(text, 900) + "9999");
            shireFault(900, 1, padded(text, 900) + ".");
        }
    }

    private static void shireFaultsInOrder() {
        Check.about("FAULTS: the first along the text");
        shireFault(6, 2, "grows 10 0;;house a a;");
        shireFault(6, 1, "grows x 0;");
        shireFault(8, 2, "grows 1 0 0;");
        shireFault(20, 3, "house a 1 1 1;house a 9999 1 1;");
        shireFault(8, 1, "house a b 99 9;house a 1 1 1;");
        shireFault(TWO.length() + 7, 3, TWO + "debt a a 0 100;");
        shireFault(TWO.length() + 9, 2, TWO + "debt a b 0 100;");
        Check.about("FAULTS 1: one that can't come");
        shireFault(0, 1, "a");
        shireFault(0, 1, "0");
        shireFault(0, 1, "pay 0 1;");
        shireFault(0, 1, "free");
        shireFault(6, 1, "house 5 1 1 1;");
        shireFault(5, 1, "house(a 1 1 1;");
        shireFault(8, 1, "house a ;");
        shireFault(8, 1, "house a a 1 1;");
        shireFault(TWO.length() + 5, 1, TWO + "debt 0 1 1 1;");
        shireFault(TWO.length() + 9, 1, TWO + "debt a b a 1;");
        shireFault(TWO.length() + 10, 1, TWO + "debt a b 1;");
    }

    private static void newShire() {
        Check.about("4: the SHIRE now: YEAR 0, no SENTENCE");
        DebtTable t = Check.rich();
        Check.is(2, Check.shire(t, TWO));
        Check.is(0, t.fault());
        int[] now = {0, 200, 0, 0, 0, 0, 0};
        for (int what = 0; what < 7; what++) {
            Check.is(now[what], t.now(what));
        }
        int[] counts = {2, 0, 1, 5, 0};
        for (int what = 0; what < 5; what++) {
            Check.is(counts[what], t.count(what));
        }
        Check.is(NONE, t.said(NONE));
        Check.is(NONE, t.undo());
        Check.isNoSuchElement(() -> t.house(2, 0));
        // what other calls told last is theirs
        Check.is(1, t.told(1));
        Check.is('a', t.byteAt(0));
        Check.is(3, t.ringAt(0) + t.ringAt(1) + t.ringAt(2));
        // an image stays
        Check.is(true, t.restore(0));
        Check.is(5, t.count(1));
        Check.about("4: the tape is empty then");
        DebtTable u = new DebtTable();
        Check.shire(u, TWO);
        Check.is(0, u.shire());
        Check.is(0, u.count(0));
    }

    // ---- BOOKS

    private static void bookEmptyAndFull() {
        Check.about("33: { LINE ; }, 40 at most");
        bookIs(NONE, "");
        bookIs(NONE, " \n ");
        bookIs(NONE, "year 1;".repeat(39));
        bookIs(NONE, "year 1;".repeat(40));
        String forty = "year 1;".repeat(40);
        bookFault(280, 4, forty + "year 1;");
        bookFault(281, 4, forty + " pay 99 99;");
        bookFault(280, 4, forty + "sell");
        bookFault(280, 4, forty + "forgive");
        bookFault(280, 4, forty + "clear");
        bookFault(282, 4, forty + " \nash");
        Check.about("FAULTS: of one TOKEN the least: a 41st LINE that can't begin so, or by a NAME not told");
        bookFault(280, 1, forty + ";");
        bookFault(280, 1, forty + "borrows");
        bookFault(280, 1, forty + "house");
        bookFault(280, 1, forty + "5");
        bookFault(280, 3, forty + "yew borrows 1 ash;");
        // a FAULT in the 40th is ahead of it
        bookFault(278, 2, "year 1;".repeat(39) + "year 0;year 1;");
        Check.about("33: each LINE has its ;");
        bookFault(0, 1, ";");
        bookFault(6, 1, "year 1");
        bookFault(7, 1, "year 1 ");
        bookFault(7, 1, "year 1;;");
        bookFault(6, 1, "year 1)");
    }

    private static void bookBound(String ahead, String behind, int least, int most) {
        bookIsRead(ahead + least + behind);
        bookIsRead(ahead + most + behind);
        if (least > 0) {
            bookFault(ahead.length(), 2, ahead + (least - 1) + behind);
        }
        bookFault(ahead.length(), most == 999 ? 1 : 2, ahead + (most + 1) + behind);
        bookFault(ahead.length(), 1, ahead + "ash" + behind);
        bookFault(ahead.length(), 1, ahead + ";");
    }

    /** It has no FAULT, whether its LINE is WRONG or not. */
    private static void bookIsRead(String text) {
        DebtTable t = Check.of(THREE);
        Check.is(true, Check.book(t, 0, text) >= NONE);
        Check.is(0, t.fault());
        Check.is(true, t.told(0) >= 0);
    }

    private static void bookNumbers() {
        Check.about("33: 'pay': a DEBT 0 to 11; 1 to 999 coins");
        bookBound("pay ", " 1;", 0, 11);
        bookBound("pay 0 ", ";", 1, 999);
        Check.about("33: 'borrows' 1 to 200 coins");
        bookBound("ash borrows ", " elm;", 1, 200);
        Check.about("33: 'sell' a DEBT 0 to 11");
        bookBound("sell ", " oak;", 0, 11);
        Check.about("33: 'forgive' a DEBT 0 to 11");
        bookBound("forgive ", ";", 0, 11);
        Check.about("33: 'clear' two DEBTS 0 to 11");
        bookBound("clear ", " 0;", 0, 11);
        bookBound("clear 0 ", ";", 0, 11);
        Check.about("33: 'year' 1 to 60");
        bookBound("year ", ";", 1, 60);
    }

    private static void bookNames() {
        Check.about("FAULTS 3: a NAME not told, in a BOOK");
        bookFault(0, 3, "yew borrows 1 ash;");
        bookFault(14, 3, "ash borrows 1 yew;");
        bookFault(7, 3, "sell 0 yew;");
        bookFault(0, 3, "as borrows 1 elm;");
        bookFault(0, 3, "ashe borrows 1 elm;");
        Check.about("FAULTS 3: two HOUSES of a 'borrows' that are alike, at the second");
        bookFault(14, 3, "ash borrows 1 ash;");
        bookFault(14, 3, "oak borrows 1 oak");
        bookIs(NONE, "ash borrows 1 elm;");
        Check.about("FAULTS 1: one that can't come, in a BOOK");
        bookFault(0, 1, "borrows 1 ash;");
        bookFault(4, 1, "ash elm;");
        bookFault(4, 1, "ash sell 1 elm;");
        bookFault(14, 1, "ash borrows 1 1;");
        bookFault(7, 1, "sell 0 1;");
        bookFault(8, 1, "pay 0 1 1;");
        bookFault(10, 1, "forgive 0 0;");
    }

    private static void bookTooLong() {
        Check.about("33: at most 400 bytes");
        bookIs(NONE, padded("year 1;", 399));
        bookIs(NONE, padded("year 1;", 400));
        bookFault(400, 1, padded("year 1;", 401));
        bookFault(400, 1, padded("year 1;", 940));
        bookFault(400, 1, " ".repeat(401));
        bookIs(NONE, " ".repeat(400));
        bookIs(NONE, padded("year 1", 399) + ";");
        bookFault(400, 1, padded("year 1", 400) + ";");
        bookFault(400, 1, padded("year 1", 400));
        Check.about("FAULTS 1: TOKENS of a BOOK that begin ahead of the most bytes are read whole");
        bookFault(399, 3, padded("year 1;", 399) + "yew");
        bookFault(400, 1, padded("year 1;", 399) + "ash");
        bookFault(400, 1, padded("year 1;", 400) + "yew");
        bookFault(399, 2, padded("year", 399) + "61;");
        bookFault(400, 1, padded("year", 399) + "60;");
        bookFault(399, 1, padded("year", 399) + "1000;");
        bookFault(5, 2, padded("year 0;", 401));
        String forty = "year 1;".repeat(40);
        bookFault(399, 4, padded(forty, 399) + "year 1;");
        bookFault(400, 1, padded(forty, 400) + "year 1;");
        Check.about("FAULTS 1: the most bytes told, whatever should have come there in a BOOK");
        for (String text : new String[] {"", "pay", "pay 0", "pay 0 1", "ash", "ash borrows", "ash borrows 1",
            "ash borrows 1 oak", "sell", "sell 0", "sell 0 ash", "forgive", "forgive 0", "clear", "clear 0", "clear 0 1",
            "year", "year 1", "year 1;"}) {
            bookFault(400, 1, padded(text, 401));
            bookFault(400, 1, padded(text, 400) + "x");
            bookFault(400, 1, padded(text, 400) + "0");
        }
    }

    // ---- SENTENCES

    private static void sentenceEmptyAndFull() {
        Check.about("35: a SENTENCE is not empty");
        sentenceFault(0, 1, "");
        sentenceFault(3, 1, "   ");
        sentenceFault(200, 1, " ".repeat(200));
        sentenceIs(1, "free");
        Check.about("35: 20 ONES");
        sentenceIs(19, "full or ".repeat(18) + "full");
        sentenceIs(20, "full or ".repeat(19) + "full");
        sentenceFault(160, 4, "full or ".repeat(20) + "full");
        sentenceFault(161, 4, "full or ".repeat(20) + " owes yew");
        sentenceFault(160, 4, "full or ".repeat(20) + "not");
        sentenceFault(160, 4, "full or ".repeat(20) + "(");
        sentenceFault(160, 4, "full or ".repeat(20) + "coins");
        sentenceIs(20, "full and ".repeat(19) + "full");
        sentenceFault(180, 4, "full and ".repeat(20) + "full");
        Check.about("35: each not, bracket and other one");
        sentenceIs(20, "not full or ".repeat(9) + "not full");
        sentenceFault(120, 4, "not full or ".repeat(10) + "full");
        sentenceIs(20, "(full)or".repeat(9) + "(full)");
        sentenceFault(81, 4, "(full)or".repeat(10) + " full");
        // the 20th is a bracket or a not, the 21st is in it
        sentenceFault(153, 4, "full or ".repeat(19) + "(full)");
        sentenceFault(156, 4, "full or ".repeat(19) + "not full");
        Check.about("FAULTS: of one TOKEN the least: a 21st ONE that can't come");
        sentenceFault(160, 1, "full or ".repeat(20) + "ash");
        sentenceFault(160, 1, "full or ".repeat(20) + "or");
        sentenceFault(160, 1, "full or ".repeat(20) + ")");
        sentenceFault(160, 1, "full or ".repeat(20) + "7");
        sentenceFault(160, 1, "full or ".repeat(20));
        // a FAULT in the 20th is ahead of it
        sentenceFault(157, 3, "full or ".repeat(19) + "owes yew or full");
        Check.about("35: what joins ONES has one on either side");
        sentenceFault(7, 1, "free or");
        sentenceFault(8, 1, "free and");
        sentenceFault(0, 1, "or free");
        sentenceFault(8, 1, "free or and free");
        sentenceFault(5, 1, "free broke");
        sentenceFault(5, 1, "free not broke");
        sentenceFault(3, 1, "not");
        sentenceFault(1, 1, "()");
        sentenceFault(5, 1, "(free");
        sentenceFault(4, 1, "free)");
        sentenceFault(6, 1, "(free))");
        sentenceFault(4, 1, "free;");
    }

    private static String brackets(int n) {
        return "(".repeat(n) + "free" + ")".repeat(n);
    }

    private static void sentenceWithin() {
        Check.about("35: 8 ONES within one another");
        sentenceIs(8, "not ".repeat(7) + "free");
        sentenceIs(8, brackets(7));
        sentenceIs(8, "not(".repeat(3) + "not free" + ")))");
        sentenceIs(8, "(not ".repeat(3) + "(free))))");
        Check.about("FAULTS 4: a ninth within, at its first TOKEN");
        for (String ninth : new String[] {"free", "broke", "full", "ringed", "owes ash", "coins<3", "not free", "(free)",
            "owes yew", "coins", "not", "("}) {
            sentenceFault(32, 4, "not ".repeat(8) + ninth);
            sentenceFault(8, 4, "(".repeat(8) + ninth);
            sentenceFault(17, 4, "not(".repeat(4) + " " + ninth);
        }
        sentenceFault(8, 4, brackets(8));
        Check.about("FAULTS: of one TOKEN the least: a ninth within that can't come");
        sentenceFault(32, 1, "not ".repeat(8) + "yew");
        sentenceFault(32, 1, "not ".repeat(8));
        sentenceFault(8, 1, "(".repeat(8) + ")");
        sentenceFault(8, 1, "(".repeat(8) + "5");
        Check.about("35: a bracket that is closed, a not that is over, is around nothing more");
        sentenceIs(16, brackets(7) + " or " + brackets(7));
        sentenceIs(16, brackets(7) + " and " + "not ".repeat(7) + "free");
        sentenceIs(17, "not ".repeat(7) + "free or full and " + brackets(7));
        sentenceFault(30, 4, brackets(7) + " or " + brackets(8));
        // a ONE behind a bracket is as far within as the bracket
        sentenceIs(9, "(((((((free or full)))))))");
        sentenceIs(9, "((((((not free or full))))))");
        sentenceFault(17, 1, "(((((((free)or ((");
        sentenceFault(17, 4, "(((((((free)or (((");
    }

    private static void sentenceNumbersAndNames() {
        Check.about("35: SIGN NUMBER");
        for (String measure : new String[] {"coins", "debts", "chairs", "number"}) {
            int sign = measure.length();
            for (String mark : new String[] {"<", "=", ">"}) {
                sentenceIs(1, measure + mark + "0");
                sentenceIs(1, measure + mark + "999");
                sentenceFault(sign + 1, 1, measure + mark + "1000");
                sentenceFault(sign + 1, 1, measure + mark);
                sentenceFault(sign + 1, 1, measure + mark + "ash");
                sentenceFault(sign + 1, 1, measure + mark + mark + "1");
            }
            sentenceFault(sign, 1, measure);
            sentenceFault(sign + 1, 1, measure + " 5");
            sentenceFault(sign, 1, measure + "(5");
        }
        Check.about("FAULTS 3: a NAME not told, in a SENTENCE");
        sentenceIs(1, "owes ash");
        sentenceIs(1, "owes oak");
        sentenceFault(5, 3, "owes yew");
        sentenceFault(5, 3, "owes oaks");
        sentenceFault(5, 3, "owes oa");
        sentenceFault(5, 1, "owes 0");
        sentenceFault(4, 1, "owes");
        sentenceFault(0, 1, "ash");
        sentenceFault(0, 1, "ringe");
        sentenceFault(0, 1, "house");
    }

    private static void sentenceTooLong() {
        Check.about("35: at most 200 bytes");
        sentenceIs(1, padded("free", 199));
        sentenceIs(1, padded("free", 200));
        sentenceFault(200, 1, padded("free", 201));
        sentenceFault(200, 1, padded("free", 940));
        sentenceIs(1, " ".repeat(196) + "free");
        sentenceFault(200, 1, " ".repeat(197) + "free");
        sentenceFault(200, 1, " ".repeat(201));
        sentenceIs(2, padded("(free", 199) + ")");
        sentenceFault(200, 1, padded("(free", 200) + ")");
        sentenceFault(200, 1, padded("(free", 200));
        Check.about("FAULTS 1: TOKENS of a SENTENCE that begin ahead of the most bytes are read whole");
        sentenceFault(199, 3, padded("owes", 199) + "yew");
        sentenceFault(200, 1, padded("owes", 199) + "ash");
        sentenceFault(200, 1, padded("owes", 200) + "yew");
        sentenceFault(200, 1, padded("coins<", 199) + "999");
        sentenceFault(199, 1, padded("coins<", 199) + "1000");
        sentenceFault(200, 1, padded("free", 199) + "or free");
        sentenceFault(199, 1, padded("free", 199) + "ore");
        sentenceFault(199, 4, padded("full or ".repeat(20), 199) + "full");
        sentenceFault(200, 1, padded("full or ".repeat(20), 200) + "full");
        sentenceFault(0, 1, padded("x", 940));
        Check.about("FAULTS 1: the most bytes told, whatever should have come there in a SENTENCE");
        for (String text : new String[] {"", "free", "not", "(", "((((((((", "(free", "(free)", "free or", "free and",
            "owes", "owes ash", "coins", "coins<", "coins<3", "full or ".repeat(20)}) {
            sentenceFault(200, 1, padded(text, 201));
            sentenceFault(200, 1, padded(text, 200) + "x");
            sentenceFault(200, 1, padded(text, 200) + "(");
        }
    }

    // ---- the latest FAULT

    private static void fault() {
        Check.about("5: 0 ahead of any, and without one");
        DebtTable t = new DebtTable();
        Check.is(0, t.fault());
        String[] shires = {"", "x", "grows 10 1;", "grows 1 1;grows 1 1;", SIX + "house"};
        String[] books = {"", "x;", "year 0;", "yew borrows 1 ash;", "year 1;".repeat(40) + "year"};
        String[] sentences = {"free", "x", "coins<1000", "owes yew", "(".repeat(8) + "free"};
        int[] bookKinds = {0, 3, 2, 3, 4};
        int[] sentenceKinds = {0, 1, 1, 3, 4};
        for (int kind = 0; kind < 5; kind++) {
            Check.shire(t, shires[kind]);
            Check.is(kind, t.fault());
            Check.book(t, 0, books[kind]);
            Check.is(bookKinds[kind], t.fault());
            Check.sentence(t, sentences[kind]);
            Check.is(sentenceKinds[kind], t.fault());
        }
        Check.about("5: a book() of -1000 leaves it");
        Check.is(4, t.fault());
        Check.is(-1000, t.book(2));
        Check.is(4, t.fault());
        Check.is(-1000, t.book(-1));
        Check.is(4, t.fault());
        Check.book(t, 1, "");
        Check.is(0, t.fault());
        Check.is(-1000, Check.book(t, 2, "x"));
        Check.is(0, t.fault());
        Check.about("5: of the latest shire(), book() or sentence(), of no other call");
        Check.sentence(t, "");
        Check.which(t, 9, 9);
        t.feed(0, 0, 0, 0, 0);
        t.end(0);
        t.image(0);
        t.restore(0);
        t.years(1);
        t.undo();
        Check.is(1, t.fault());
        // a BOOK that is WRONG has no FAULT
        Check.is(0, Check.book(t, 0, "pay 0 1;"));
        Check.is(0, t.fault());
    }
}
