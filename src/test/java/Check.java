import java.util.NoSuchElementException;
import java.util.function.IntToLongFunction;
import java.util.function.LongSupplier;

/** What the tests share: telling a desk a text, and comparing answers with those that are due. */
final class Check {
    private static int wrong = 0;
    private static int checked = 0;
    private static String sentence = "";

    private Check() {
    }

    /**
     * Names the sentence of ../shared/DOC.md that the answers from here on are due by: its section ("Terms 1",
     * "Terms 2", "Promise 1", ..) and its words. DocTest reads these calls: each word of the document needs one.
     */
    static void sentence(String section, String words) {
        sentence = section + ": " + words;
    }

    static void due(String call, long got, long want) {
        checked++;
        if (got != want) {
            tellWrong(call + " answered " + got + ", due is " + want);
        }
    }

    static void due(String call, boolean got, boolean want) {
        due(call, got ? 1 : 0, want ? 1 : 0);
    }

    /** The answers of what 0, 1, .. are these. */
    static void answers(String call, IntToLongFunction asked, long... want) {
        for (int what = 0; what < want.length; what++) {
            due(call + " " + what, asked.applyAsLong(what), want[what]);
        }
    }

    /** The call answers the same to each of these. */
    static void always(String call, IntToLongFunction asked, long want, int... inputs) {
        for (int input : inputs) {
            due(call + " " + input, asked.applyAsLong(input), want);
        }
    }

    static void throwsNone(String call, LongSupplier asked) {
        boolean thrown = false;
        long got = 0;
        try {
            got = asked.getAsLong();
        } catch (NoSuchElementException e) {
            thrown = true;
        }
        checked++;
        if (!thrown) {
            tellWrong(call + " answered " + got + ", due is NoSuchElementException");
        }
    }

    private static void tellWrong(String text) {
        wrong++;
        System.out.println(text + " (" + sentence + ")");
    }

    /** Feeds the text, filled up with blanks to whole feeds; what the last feed answered. */
    static int feed(PayoutDesk desk, String text) {
        int answer = -5;
        for (int at = 0; at < text.length(); at += 20) {
            int[] fives = new int[5];
            for (int i = 0; i < 20; i++) {
                int b = at + i < text.length() ? text.charAt(at + i) & 255 : 32;
                fives[i / 4] |= b << 8 * (3 - i % 4);
            }
            answer = desk.feed(fives[0], fives[1], fives[2], fives[3], fives[4]);
        }
        return answer;
    }

    static int tell(PayoutDesk desk, String text) {
        feed(desk, text);
        return desk.book(text.length());
    }

    static PayoutDesk told(String text) {
        PayoutDesk desk = new PayoutDesk();
        int lines = tell(desk, text);
        if (lines < 1) {
            tellWrong("no BOOK: " + text + " answered " + lines);
        }
        return desk;
    }

    /** What book answers of a text with a FAULT of this kind at this place. */
    static int fault(int place, int kind) {
        return -2 - (8 * place + kind);
    }

    /** The text is a BOOK of so many LINES. */
    static void good(String text, int lines) {
        due("book of \"" + text + "\"", tell(new PayoutDesk(), text), lines);
    }

    /** The text has a FAULT of this kind where the sign ^, which is none of the text, stands. */
    static void bad(String text, int kind) {
        int place = text.indexOf('^');
        String told = text.substring(0, place) + text.substring(place + 1);
        due("book of \"" + told + "\"", tell(new PayoutDesk(), told), fault(place, kind));
    }

    /** So many LINES that differ in the last letter of a NAME: a, b, .. */
    static String several(String ahead, int times, String behind) {
        StringBuilder text = new StringBuilder();
        for (int i = 0; i < times; i++) {
            text.append(ahead).append((char) ('a' + i)).append(behind);
        }
        return text.toString();
    }

    static void finish(String name) {
        System.out.println(name + ": " + checked + " answers, " + wrong + " not as due");
        if (wrong != 0) {
            System.exit(1);
        }
    }
}
