import java.util.ArrayList;
import java.util.List;
import java.util.NoSuchElementException;
import java.util.Random;
import java.util.function.LongSupplier;

/** Promises 1 to 28 together: long runs of calls, the same each time, compared with NaiveDesk. */
final class RandomRunsTest {
    private static final int RUNS = 400;
    private static final int RUNS_OF_BOOKS = 300;
    private static final int CALLS = 512;
    private static final String[] WORDS = {"person", "insider", "trust", "account", "balance", "high", "from",
        "to", "loan", "due", "cover", "raise", "closed", "a", "b", "c", "pa", "ta", "xa", "abcdefgh", "abcdefghi",
        ";", "0", "1", "7", "99", "100", "999", "1000", "9999", "10000", "9999999", "12345678", "%", "A", "\t", "\n"};
    private static final String BYTES = "  ;;\n\n\t\0\u00ff%AZ-/:`{abptz0159";

    private final Random random;
    private final PayoutDesk desk = new PayoutDesk();
    private final NaiveDesk naive = new NaiveDesk();
    private int calls = 0;
    private List<Integer> marks = List.of(1);
    private int days = 999;

    private RandomRunsTest(int seed) {
        random = new Random(seed);
    }

    public static void main(String[] args) {
        for (int run = 0; run < RUNS; run++) {
            new RandomRunsTest(run).run(run);
        }
        for (int run = RUNS; run < RUNS + RUNS_OF_BOOKS; run++) {
            new RandomRunsTest(run).runOfBooks(run);
        }
        Check.finish("RandomRunsTest");
    }

    private void run(int run) {
        if (random.nextInt(4) == 0) {
            ask(run);
        }
        while (calls < CALLS - 60) {
            tellBook(run);
            int some = 20 + random.nextInt(150);
            for (int i = 0; i < some && calls < CALLS; i++) {
                if (random.nextInt(3) == 0) {
                    act(run);
                } else {
                    ask(run);
                }
            }
        }
    }

    /** Texts alone, most of them with FAULTS, and what is told after each. */
    private void runOfBooks(int run) {
        while (calls < CALLS - 60) {
            tellBook(run);
            for (int what = 0; what < 6; what++) {
                due(run, "count " + what, desk.count(what), naive.count(what));
            }
        }
    }

    private int below(int bound) {
        return random.nextInt(bound);
    }

    /** Mostly a number below the bound, sometimes one that is none such. */
    private int number(int bound) {
        int odd = below(30);
        int[] none = {-1, bound, Integer.MIN_VALUE, Integer.MAX_VALUE};
        return odd < 4 ? none[odd] : below(bound + 1);
    }

    // ---- books

    private void tellBook(int run) {
        String text = book();
        int spoil = below(8);
        if (spoil < 2) {
            text = spoilt(text);
        } else if (spoil == 2) {
            text = spoiltByBytes(text);
        }
        text = text.substring(0, Math.min(text.length(), 1000));
        for (int at = 0; at < text.length(); at += 20) {
            int[] fives = new int[5];
            for (int i = 0; i < 20; i++) {
                int b = at + i < text.length() ? text.charAt(at + i) : 32;
                fives[i / 4] |= b << 8 * (3 - i % 4);
            }
            due(run, "feed", desk.feed(fives[0], fives[1], fives[2], fives[3], fives[4]), naive.feed(fives));
        }
        int length = below(20) == 0 ? below(1010) - 5 : text.length();
        due(run, "book " + text, desk.book(length), naive.book(length));
    }

    private String spoilt(String text) {
        List<String> tokens = new ArrayList<>(List.of(text.split(" +")));
        for (int i = below(2); i >= 0; i--) {
            int at = below(tokens.size());
            switch (below(4)) {
                case 0: tokens.remove(at); break;
                case 1: tokens.add(at, WORDS[below(WORDS.length)]); break;
                case 2: tokens.set(at, WORDS[below(WORDS.length)]); break;
                default: tokens.set(at, tokens.get(below(tokens.size())));
            }
            if (tokens.isEmpty()) {
                tokens.add(";");
            }
        }
        return String.join(" ", tokens);
    }

    /** Bytes taken out, put in or told anew: TOKENS that are parted, grow together or are no more. */
    private String spoiltByBytes(String text) {
        StringBuilder bytes = new StringBuilder(text);
        for (int i = below(3); i >= 0 && bytes.length() > 0; i--) {
            int at = below(bytes.length());
            char other = BYTES.charAt(below(BYTES.length()));
            switch (below(4)) {
                case 0: bytes.deleteCharAt(at); break;
                case 1: bytes.insert(at, other); break;
                case 2: bytes.setCharAt(at, other); break;
                default: bytes.delete(at, Math.min(bytes.length(), at + 1 + below(25)));
            }
        }
        return bytes.toString();
    }

    private String book() {
        int most = below(5) == 0 ? 9999999 : 20 + below(2000);
        days = below(3) == 0 ? 999 : 12;
        marks = new ArrayList<>();
        for (int i = 2 + below(below(3) == 0 ? 60 : 10); i > 0; i--) {
            marks.add(1 + below(below(2) == 0 ? 12 : 9999));
        }
        StringBuilder text = new StringBuilder();
        List<String> holders = new ArrayList<>();
        List<String> persons = new ArrayList<>();
        List<String> accounts = new ArrayList<>();
        int bound = below(4) == 0 ? 14 : 8;
        for (int i = 1 + below(bound); i > 0; i--) {
            String name = "p" + (char) ('a' + persons.size());
            text.append("person ").append(name).append(' ');
            List<Integer> own = new ArrayList<>();
            for (int m = below(40) == 0 ? 4 : below(4); m > 0; m--) {
                int mark = marks.get(below(marks.size()));
                if (!own.contains(mark) || below(20) == 0) {
                    own.add(mark);
                    text.append(mark).append(' ');
                }
            }
            text.append(below(4) == 0 ? "insider ; " : "; ");
            persons.add(name);
            holders.add(name);
        }
        for (int i = below(5) + below(2) + (below(40) == 0 ? 2 : 0); i > 0; i--) {
            String name = "t" + (char) ('a' + i);
            text.append("trust ").append(name).append(' ').append(parts(holders, below(9) == 0 ? 0 : 1)).append("; ");
            holders.add(name);
        }
        for (int i = below(bound == 14 ? 12 : 6); i > 0; i--) {
            String name = "x" + (char) ('a' + accounts.size());
            text.append("account ").append(name).append(" balance ").append(below(most + 1)).append(' ');
            text.append(parts(holders, below(60) == 0 ? 0 : 1)).append("; ");
            accounts.add(name);
        }
        for (int i = below(4) + below(4); i > 0 && !accounts.isEmpty(); i--) {
            int first = below(days + 1);
            text.append("high ").append(accounts.get(below(accounts.size()))).append(' ').append(below(most + 1));
            text.append(" from ").append(first).append(" to ").append(first + below(days + 1 - first)).append(" ; ");
        }
        for (int i = below(4) + below(5); i > 0; i--) {
            text.append("loan ").append(persons.get(below(persons.size()))).append(' ').append(below(most / 2 + 1));
            text.append(" due ").append(below(days + 1)).append(" ; ");
        }
        setting(text, "cover", most);
        setting(text, "raise", most);
        setting(text, "closed", days);
        return text.toString();
    }

    private void setting(StringBuilder text, String name, int most) {
        if (below(4) != 0) {
            text.append(name).append(' ').append(below(most + 1)).append(" ; ");
        }
    }

    private String parts(List<String> holders, int least) {
        StringBuilder text = new StringBuilder();
        List<String> left = new ArrayList<>(holders);
        for (int i = least == 0 ? 0 : 1 + below(5) + (below(60) == 0 ? 1 : 0); i > 0 && !left.isEmpty(); i--) {
            int weight = below(5) == 0 ? 0 : below(3) == 0 ? below(100) : 1 + below(4);
            int at = below(2) == 0 ? left.size() - 1 : below(left.size());
            text.append(below(80) == 0 ? left.get(at) : left.remove(at)).append(' ').append(weight).append(' ');
        }
        return text.toString();
    }

    // ---- calls

    private void act(int run) {
        int p = number(below(3) == 0 ? 12 : 8);
        int q = number(below(3) == 0 ? 12 : 8);
        int a = number(6);
        int v = below(15) == 0 ? number(9999999) : below(2500);
        switch (below(13)) {
            case 0:
            case 1: due(run, "balance " + a + " " + v, desk.balance(a, v), naive.balance(a, v)); break;
            case 2:
            case 3:
            case 4:
            case 5: due(run, "join " + p + " " + q, desk.join(p, q), naive.join(p, q)); break;
            case 6:
            case 7: due(run, "split " + p, desk.split(p), naive.split(p)); break;
            case 8: {
                int what = number(2);
                int value = what == 0 ? number(days) : v;
                due(run, "tell " + what + " " + value, desk.tell(what, value), naive.tell(what, value));
                break;
            }
            case 9:
            case 10: {
                int mark = mark();
                boolean out = below(3) != 0;
                due(run, "mark " + mark + " " + out, desk.mark(mark, out) ? 1 : 0, naive.mark(mark, out) ? 1 : 0);
                break;
            }
            case 11: due(run, "undo", desk.undo(), naive.undo()); break;
            default: {
                int k = number(2);
                boolean back = below(3) == 0;
                due(run, "keep " + k + " " + back, desk.keep(k, back) ? 1 : 0, naive.keep(k, back) ? 1 : 0);
            }
        }
    }

    private int mark() {
        return below(15) == 0 || marks.isEmpty() ? number(9999) : marks.get(below(marks.size()));
    }

    private void ask(int run) {
        int p = number(below(3) == 0 ? 12 : 8);
        int q = number(below(3) == 0 ? 12 : 8);
        int a = number(6);
        int d = number(below(3) == 0 ? 12 : 5);
        switch (below(20)) {
            case 0: {
                int w = number(6);
                due(run, "person " + p + " " + w, desk.person(p, w), naive.person(p, w));
                break;
            }
            case 1: {
                int t = number(4);
                int w = number(3);
                due(run, "trust " + t + " " + w, desk.trust(t, w), naive.trust(t, w));
                break;
            }
            case 2: {
                int w = number(3);
                due(run, "account " + a + " " + w, desk.account(a, w), naive.account(a, w));
                break;
            }
            case 3:
            case 4: due(run, "share " + a + " " + p, thrown(() -> desk.share(a, p)), naive.share(a, p)); break;
            case 5: due(run, "who " + d, desk.who(d), naive.who(d)); break;
            case 6:
            case 7: {
                int w = number(8);
                due(run, "view " + d + " " + w, desk.view(d, w), naive.view(d, w));
                break;
            }
            case 8: {
                int w = number(6);
                due(run, "all " + w, desk.all(w), naive.all(w));
                break;
            }
            case 9: due(run, "ranked " + d, desk.ranked(d), naive.ranked(d)); break;
            case 10:
            case 11: {
                int of = below(3) == 0 ? -1 : d;
                int money = below(8) == 0 ? number(99999999) : below(6000);
                due(run, "estate " + money + " " + of, desk.estate(money, of), naive.estate(money, of));
                break;
            }
            case 12: {
                int rank = number(2);
                due(run, "enough " + rank, desk.enough(rank), naive.enough(rank));
                break;
            }
            case 13: {
                int day = number(days);
                due(run, "onDay " + day, desk.onDay(day), naive.onDay(day));
                break;
            }
            case 14: {
                int from = number(days);
                int to = below(9) == 0 ? number(days) : Math.min(days, from + below(20));
                int what = number(1);
                due(run, "bestDay " + from + " " + to + " " + what, desk.bestDay(from, to, what), naive.bestDay(from, to, what));
                break;
            }
            case 15: {
                int hundredths = number(100);
                long cover = desk.coverFor(hundredths);
                due(run, "coverFor " + hundredths + ": " + cover, naive.isCoverFor(hundredths, cover) ? 1 : 0, 1);
                break;
            }
            case 16: {
                int mark = mark();
                due(run, "markless " + mark, thrown(() -> desk.markless(mark)), naive.markless(mark));
                break;
            }
            case 17: due(run, "joining " + p + " " + q, thrown(() -> desk.joining(p, q)), naive.joining(p, q)); break;
            case 18: due(run, "apart " + p + " " + q, desk.apart(p, q), naive.apart(p, q)); break;
            default:
                if (below(2) == 0) {
                    due(run, "ways " + a + " " + p, desk.ways(a, p), naive.ways(a, p));
                } else {
                    int w = number(11);
                    due(run, "count " + w, desk.count(w), naive.count(w));
                }
        }
    }

    private static long thrown(LongSupplier asked) {
        try {
            return asked.getAsLong();
        } catch (NoSuchElementException e) {
            return NaiveDesk.THROWS;
        }
    }

    private void due(int run, String call, long got, long want) {
        calls++;
        Check.due("run " + run + ", call " + calls + ": " + call, got, want);
    }
}
