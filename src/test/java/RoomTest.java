import com.sun.management.ThreadMXBean;
import java.lang.management.ManagementFactory;

/** All calls of a run live in one room: an object and its 512 dearest calls must take up little of it. */
public final class RoomTest {
    private static final String SHIRE = "house a 90 9 2;house b 80 8 1;house c 70 7 3;house d 9 1 2;house e 8 2 1;"
            + "house f 7 3 6;debt a b 20 1;debt b c 20 1;debt c d 20 1;debt d e 20 1;debt e f 20 1;debt f a 20 1;"
            + "debt a c 9 2;debt b d 9 2;debt c e 9 2;debt d f 9 2;debt e a 9 2;";
    private static final String SENTENCE = "not(free or(broke and ringed or not full))and(owes b or coins>3)";
    private static final long MOST_OF_AN_OBJECT = 48_000;
    private static final long MOST_OF_A_CALL = 64;

    private RoomTest() { }

    private static long taken() {
        return ((ThreadMXBean) ManagementFactory.getThreadMXBean()).getThreadAllocatedBytes(Thread.currentThread()
                .getId());
    }

    private static long newObject() {
        long from = taken();
        DebtTable t = new DebtTable();
        long to = taken();
        Check.is(0, t.count(0));
        return to - from;
    }

    /** One round of calls that go far; what the calls that feed make is looked at too. */
    private static int round(DebtTable t, int[] text, int[] sentence, int seed) {
        int sum = feed(t, text, SHIRE.length()) + t.shire();
        sum += feed(t, sentence, SENTENCE.length()) + t.sentence() + t.said(-1);
        sum += t.drawn(60, seed) + t.undo() + t.odds(0, 30, seed) + t.meets(1) + t.settle() + t.ring(2) + t.able(0);
        sum += t.now(6) + t.line(3) + t.fullest() + t.mean(0, 0) + (t.image(0) ? 1 : 0) + (t.restore(0) ? 1 : 0);
        return sum;
    }

    private static int feed(DebtTable t, int[] text, int length) {
        for (int i = 0; i < text.length; i += 5) {
            t.feed(text[i], text[i + 1], text[i + 2], text[i + 3], text[i + 4]);
        }
        return t.end(length) ? 0 : -1_000_000;
    }

    private static int[] packed(String text) {
        int[] numbers = new int[(text.length() + 19) / 20 * 5];
        for (int i = 0; i < text.length(); i++) {
            numbers[i / 4] |= text.charAt(i) << 24 - i % 4 * 8;
        }
        return numbers;
    }

    public static void main(String[] args) {
        Check.about("the room");
        newObject();
        long object = newObject();
        DebtTable t = new DebtTable();
        int[] text = packed(SHIRE);
        int[] sentence = packed(SENTENCE);
        round(t, text, sentence, 1);
        long from = taken();
        int sum = 0;
        for (int i = 0; i < 16; i++) {
            sum += round(t, text, sentence, i);
        }
        long call = (taken() - from) / (16 * 32);
        Check.is(true, sum > 0);
        System.out.println("an object: " + object + " bytes, a call: " + call + " bytes");
        Check.is(true, object <= MOST_OF_AN_OBJECT);
        Check.is(true, call <= MOST_OF_A_CALL);
        Check.end();
    }
}
