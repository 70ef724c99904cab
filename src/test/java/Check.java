import java.util.NoSuchElementException;
import java.util.function.LongSupplier;

/** What the tests share: telling a desk a text, and comparing answers with those that are due. */
final class Check {
    private static int wrong = 0;
    private static int checked = 0;

    private Check() {
    }

    static void due(String call, long got, long want) {
        checked++;
        if (got != want) {
            wrong++;
            System.out.println(call + " answered " + got + ", due is " + want);
        }
    }

    static void due(String call, boolean got, boolean want) {
        due(call, got ? 1 : 0, want ? 1 : 0);
    }

    static void throwsNone(String call, LongSupplier asked) {
        boolean thrown = false;
        long got = 0;
        try {
            got = asked.getAsLong();
        } catch (NoSuchElementException e) {
            thrown = true;
        }
        checked++;
        if (!thrown) {
            wrong++;
            System.out.println(call + " answered " + got + ", due is NoSuchElementException");
        }
    }

    /** Feeds the text, filled up with blanks to whole feeds; what the last feed answered. */
    static int feed(PayoutDesk desk, String text) {
        int answer = -5;
        for (int at = 0; at < text.length(); at += 20) {
            int[] fives = new int[5];
            for (int i = 0; i < 20; i++) {
                int b = at + i < text.length() ? text.charAt(at + i) & 255 : 32;
                fives[i / 4] |= b << 8 * (3 - i % 4);
            }
            answer = desk.feed(fives[0], fives[1], fives[2], fives[3], fives[4]);
        }
        return answer;
    }

    static int tell(PayoutDesk desk, String text) {
        feed(desk, text);
        return desk.book(text.length());
    }

    static PayoutDesk told(String text) {
        PayoutDesk desk = new PayoutDesk();
        int lines = tell(desk, text);
        if (lines < 1) {
            wrong++;
            System.out.println("no BOOK: " + text + " answered " + lines);
        }
        return desk;
    }

    /** What book answers of a text with a FAULT of this kind at this place. */
    static int fault(int place, int kind) {
        return -2 - (8 * place + kind);
    }

    static void finish(String name) {
        System.out.println(name + ": " + checked + " answers, " + wrong + " not as due");
        if (wrong != 0) {
            System.exit(1);
        }
    }
}
