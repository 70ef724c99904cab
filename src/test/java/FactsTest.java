/** Promises 4 to 11 and 20: what is told, shares, DEPOSITORS and what is reckoned of them, ways. */
final class FactsTest {
    static final String BOOK = "person ann 11 22;person bob 22 33 44 insider;person cem;person dee 9999;"
            + "trust ta ann 1 bob 2;trust tb ta 1 cem 0 dee 3;trust tz;"
            + "account x balance 1000 ann 1 tb 2;account y balance 7 tz 0 cem 1;"
            + "account z balance 103 ta 1 tb 1 ann 1;"
            + "high x 400 from 5 to 9;high z 9999 from 7 to 7;high y 5 from 0 to 999;"
            + "loan bob 50 due 6;loan dee 600 due 8;loan dee 30 due 3;cover 300;raise 100;closed 7;";

    private FactsTest() {
    }

    public static void main(String[] args) {
        persons();
        trusts();
        accounts();
        shares();
        sharesCentByCent();
        whatFails();
        ways();
        who();
        views();
        setOffAndLimits();
        allTogether();
        ranked();
        twelveDepositors();
        Check.finish("FactsTest");
    }

    /** The answers of what 0, 1, .. are these, and NONE on both sides of them. */
    private static void row(String call, java.util.function.IntToLongFunction asked, long... want) {
        for (int what = 0; what < want.length; what++) {
            Check.due(call + " " + what, asked.applyAsLong(what), want[what]);
        }
        for (int what : new int[] {-1, want.length, Integer.MIN_VALUE, Integer.MAX_VALUE}) {
            Check.due(call + " " + what, asked.applyAsLong(what), -1);
        }
    }

    private static void persons() {
        PayoutDesk desk = Check.told(BOOK);
        row("person(0)", w -> desk.person(0, w), 2, 11, 22, 0, 0, 0, 0);
        row("person(1)", w -> desk.person(1, w), 3, 22, 33, 44, 1, 0, 1);
        row("person(2)", w -> desk.person(2, w), 0, 0, 0, 0, 0, 1, 2);
        row("person(3)", w -> desk.person(3, w), 1, 9999, 0, 0, 0, 2, 3);
        row("person(4)", w -> desk.person(4, w));
        row("person(-1)", w -> desk.person(-1, w));
        Check.due("person(MIN, 0)", desk.person(Integer.MIN_VALUE, 0), -1);
        Check.due("person(MAX, 0)", desk.person(Integer.MAX_VALUE, 0), -1);
        Check.tell(desk, "person zed;person ay 5;person ko 22;");
        row("person(0)", w -> desk.person(0, w), 0, 0, 0, 0, 0, 0, 25);
        row("person(1)", w -> desk.person(1, w), 1, 5, 0, 0, 0, 1, 0);
        row("person(3)", w -> desk.person(3, w));
    }

    private static void trusts() {
        PayoutDesk desk = Check.told(BOOK);
        row("trust(0)", w -> desk.trust(0, w), 2, 3, 0, 1);
        row("trust(1)", w -> desk.trust(1, w), 3, 4, 0, 2);
        row("trust(2)", w -> desk.trust(2, w), 0, 0, 1, 1);
        row("trust(3)", w -> desk.trust(3, w));
        row("trust(-1)", w -> desk.trust(-1, w));
        PayoutDesk deep = Check.told("person a;trust t a 1;trust u t 0 a 99;trust v a 1 u 2 t 3;trust w v 0;trust s t 1 u 1;");
        row("trust(2)", w -> deep.trust(2, w), 3, 6, 0, 3);
        row("trust(3)", w -> deep.trust(3, w), 1, 0, 1, 4);
        row("trust(4)", w -> deep.trust(4, w), 2, 2, 0, 3);
    }

    private static void accounts() {
        PayoutDesk desk = Check.told(BOOK);
        row("account(0)", w -> desk.account(0, w), 1000, 2, 0, 4);
        row("account(1)", w -> desk.account(1, w), 7, 2, 1, 1);
        row("account(2)", w -> desk.account(2, w), 103, 3, 0, 4);
        row("account(3)", w -> desk.account(3, w));
        row("account(-1)", w -> desk.account(-1, w));
        desk.balance(1, 8);
        row("account(1)", w -> desk.account(1, w), 8, 2, 1, 1);
    }

    private static void shares() {
        PayoutDesk desk = Check.told(BOOK);
        int[][] want = {{388, 111, 0, 501}, {0, 0, 0, 0}, {48, 29, 0, 26}};
        for (int a = 0; a < 3; a++) {
            for (int p = 0; p < 4; p++) {
                Check.due("share(" + a + ", " + p + ")", desk.share(a, p), want[a][p]);
            }
        }
        Check.throwsNone("share(3, 0)", () -> desk.share(3, 0));
        Check.throwsNone("share(-1, 0)", () -> desk.share(-1, 0));
        Check.throwsNone("share(0, 4)", () -> desk.share(0, 4));
        Check.throwsNone("share(0, -1)", () -> desk.share(0, -1));
        Check.throwsNone("share(MAX, MIN)", () -> desk.share(Integer.MAX_VALUE, Integer.MIN_VALUE));
    }

    private static void sharesCentByCent() {
        PayoutDesk desk = Check.told("person a;person b;person c;account x balance 10 a 1 b 1 c 1;"
                + "account y balance 9999999 a 99 b 98 c 97;account z balance 2 c 1 b 1 a 1;");
        long[] thirds = {3, 3, 4};
        long[] many = {3367346, 3333333, 3299320};
        long[] few = {1, 1, 0};
        for (int p = 0; p < 3; p++) {
            Check.due("thirds " + p, desk.share(0, p), thirds[p]);
            Check.due("many " + p, desk.share(1, p), many[p]);
            Check.due("few " + p, desk.share(2, p), few[p]);
        }
    }

    private static void whatFails() {
        PayoutDesk desk = Check.told("person a;trust t a 0;trust u a 1 t 0;trust v u 1;"
                + "account x balance 5 a 1 v 0;account y balance 6 a 0;account z balance 0 u 1;account o balance 9 a 3;"
                + "high x 5 from 0 to 9;high o 4 from 0 to 9;");
        for (int t = 0; t < 3; t++) {
            Check.due("trust(" + t + ", 2)", desk.trust(t, 2), 1);
        }
        for (int a = 0; a < 3; a++) {
            Check.due("account(" + a + ", 2)", desk.account(a, 2), 1);
            Check.due("account(" + a + ", 3)", desk.account(a, 3), 1);
            Check.due("share(" + a + ", 0)", desk.share(a, 0), 0);
        }
        Check.due("account(3, 2)", desk.account(3, 2), 0);
        Check.due("HAS", desk.view(0, 0), 9);
        Check.due("HIGH", desk.view(0, 4), 4);
        Check.due("FROZEN balances", desk.all(4), 11);
        desk.balance(2, 100);
        Check.due("FROZEN balances", desk.all(4), 111);
    }

    private static void ways() {
        PayoutDesk desk = Check.told(BOOK);
        int[][] want = {{2, 1, 1, 1}, {0, 0, 1, 0}, {3, 2, 1, 1}};
        for (int a = 0; a < 3; a++) {
            for (int p = 0; p < 4; p++) {
                Check.due("ways(" + a + ", " + p + ")", desk.ways(a, p), want[a][p]);
            }
        }
        Check.due("ways(3, 0)", desk.ways(3, 0), -1);
        Check.due("ways(-1, 0)", desk.ways(-1, 0), -1);
        Check.due("ways(0, 4)", desk.ways(0, 4), -1);
        Check.due("ways(0, -1)", desk.ways(0, -1), -1);
        PayoutDesk many = Check.told("person a;trust ta a 1;trust tb a 1 ta 1;trust tc a 0 ta 1 tb 1;"
                + "trust td a 1 ta 1 tb 0 tc 1;trust te a 1 ta 1 tb 1 tc 1 td 1;"
                + "account x balance 1 te 1;account y balance 1 a 0 tb 0 tc 0 td 0 te 1;");
        Check.due("ways(0, 0)", many.ways(0, 0), 16);
        Check.due("ways(1, 0)", many.ways(1, 0), 31);
        Check.due("account(1, 3)", many.account(1, 3), 1);
    }

    private static void who() {
        PayoutDesk desk = Check.told(BOOK);
        Check.due("who(0)", desk.who(0), 3);
        Check.due("who(1)", desk.who(1), 4);
        Check.due("who(2)", desk.who(2), 8);
        Check.due("who(3)", desk.who(3), -1);
        Check.due("who(-1)", desk.who(-1), -1);
        PayoutDesk chain = Check.told("person a 1 2;person b 5;person c 3 4;person d 5 6;person e 4 2;person f 6;person g;");
        Check.due("who(0)", chain.who(0), 1 + 4 + 16);
        Check.due("who(1)", chain.who(1), 2 + 8 + 32);
        Check.due("who(2)", chain.who(2), 64);
        Check.due("who(3)", chain.who(3), -1);
        Check.due("person(6, 5)", chain.person(6, 5), 2);
        chain.join(6, 2);
        Check.due("who(0)", chain.who(0), 1 + 4 + 16 + 64);
        Check.due("person(6, 5)", chain.person(6, 5), 0);
        Check.due("who(2)", chain.who(2), -1);
    }

    private static void views() {
        PayoutDesk desk = Check.told(BOOK);
        row("view(0)", w -> desk.view(0, w), 576, 50, 50, 526, 276, 400, 400, 126, 1);
        row("view(1)", w -> desk.view(1, w), 0, 0, 0, 0, 0, 300, 0, 0, 0);
        row("view(2)", w -> desk.view(2, w), 527, 30, 30, 497, 227, 400, 400, 97, 0);
        row("view(3)", w -> desk.view(3, w));
        row("view(-1)", w -> desk.view(-1, w));
        row("view(MIN)", w -> desk.view(Integer.MIN_VALUE, w));
        desk.tell(0, 8);
        row("view(2)", w -> desk.view(2, w), 527, 630, 527, 0, 201, 400, 0, 0, 0);
    }

    private static void setOffAndLimits() {
        PayoutDesk desk = Check.told("person a;account x balance 100 a 1;high x 30 from 5 to 6;"
                + "high x 40 from 6 to 6;loan a 10 due 6;loan a 20 due 7;cover 20;raise 50;closed 4;");
        row("day 4", w -> desk.view(0, w), 100, 0, 0, 100, 0, 20, 20, 80, 0);
        desk.tell(0, 5);
        row("day 5", w -> desk.view(0, w), 100, 0, 0, 100, 30, 50, 50, 50, 0);
        desk.tell(0, 6);
        row("day 6", w -> desk.view(0, w), 100, 10, 10, 90, 70, 70, 70, 20, 0);
        desk.balance(0, 35);
        row("35 left", w -> desk.view(0, w), 35, 10, 10, 25, 65, 70, 25, 0, 0);
        desk.balance(0, 4);
        row("4 left", w -> desk.view(0, w), 4, 10, 4, 0, 8, 28, 0, 0, 0);
        desk.tell(0, 7);
        row("day 7", w -> desk.view(0, w), 4, 30, 4, 0, 0, 20, 0, 0, 0);
    }

    private static void allTogether() {
        PayoutDesk desk = Check.told(BOOK);
        row("all", w -> desk.all(w), 1103, 80, 800, 223, 7, 3, 2);
        PayoutDesk most = Check.told("person a;person b;account ab balance 9999999 a 1;account ac balance 9999999 a 1;"
                + "account ad balance 9999999 a 1;account ae balance 9999999 a 1;account af balance 9999999 a 1;"
                + "account ag balance 9999999 a 1;account ah balance 9999999 a 1;account ai balance 9999999 a 1;"
                + "account aj balance 9999999 a 1;account ak balance 9999999 b 1;"
                + "cover 0;loan b 9999999 due 0;loan b 9999999 due 0;");
        row("all of the most", w -> most.all(w), 99999990, 9999999, 0, 89999991, 0, 2, 1);
        Check.due("coverFor(100)", most.coverFor(100), 89999991);
        Check.due("enough(1)", most.enough(1), 89999991);
        Check.due("estate(99999999, 0)", most.estate(99999999, 0), 89999991);
        Check.due("estate(89999990, 0)", most.estate(89999990, 0), 89999990);
    }

    private static void ranked() {
        PayoutDesk desk = Check.told(BOOK);
        int[] want = {0, 2, 1};
        for (int k = 0; k < 3; k++) {
            Check.due("ranked(" + k + ")", desk.ranked(k), want[k]);
        }
        Check.due("ranked(3)", desk.ranked(3), -1);
        Check.due("ranked(-1)", desk.ranked(-1), -1);
        Check.due("ranked(MAX)", desk.ranked(Integer.MAX_VALUE), -1);
        PayoutDesk like = Check.told("person a;person b;person c;person d;person e;"
                + "account x balance 80 a 1 b 2 c 1 d 2 e 2;cover 0;");
        int[] order = {1, 3, 4, 0, 2};
        for (int k = 0; k < 5; k++) {
            Check.due("ranked(" + k + ")", like.ranked(k), order[k]);
        }
    }

    /** A full BOOK in which nobody is one with another: each has his balance, 1 more than the one ahead. */
    private static void twelveDepositors() {
        StringBuilder text = new StringBuilder();
        for (int p = 0; p < 12; p++) {
            text.append("person p").append((char) ('a' + p)).append(p % 4 == 3 ? " insider;" : ";");
        }
        text.append("trust ta pa 1 pb 2 pc 3 pd 4 pe 5;trust tb pf 6 pg 7 ph 8 pi 9 pj 10;trust tc pk 11 pl 12;");
        text.append("account x balance 78 ta 15 tb 40 tc 23;cover 11;");
        PayoutDesk desk = Check.told(text.toString());
        row("all", w -> desk.all(w), 78, 0, 77, 1, 0, 12, 1);
        desk.tell(1, 4);
        row("all", w -> desk.all(w), 78, 0, 42, 36, 0, 12, 8);
        for (int d = 0; d < 12; d++) {
            long claim = Math.max(d + 1 - 4, 0);
            Check.due("NET of " + d, desk.view(d, 3), d + 1);
            Check.due("CLAIM of " + d, desk.view(d, 7), claim);
            Check.due("who(" + d + ")", desk.who(d), 1 << d);
            Check.due("person(" + d + ", 5)", desk.person(d, 5), d);
            Check.due("estate of " + d, desk.estate(1000, d), claim);
            Check.due("ranked", desk.ranked(d), d < 8 ? 11 - d : d - 8);
            Check.due("apart(" + d + ", 11)", desk.apart(d, 11), d == 11 ? 0 : -1);
        }
        Check.due("who(12)", desk.who(12), -1);
        Check.due("ranked(12)", desk.ranked(12), -1);
        Check.due("view(12, 0)", desk.view(12, 0), -1);
        Check.due("estate(5, 12)", desk.estate(5, 12), -2);
        // The INSIDERS are the 4th, 8th, 12th: their CLAIMS are 0, 4, 8.
        Check.due("enough(1)", desk.enough(1), 42 + 24);
        Check.due("enough(2)", desk.enough(2), 42 + 36);
        Check.due("estate(72, 7)", desk.estate(72, 7), 2);
        Check.due("estate(72, 11)", desk.estate(72, 11), 4);
        Check.due("onDay(5)", desk.onDay(5), 42);
        Check.due("coverFor(100)", desk.coverFor(100), 12);
        Check.due("joining(10, 11)", desk.joining(10, 11), -4);
        Check.due("join(10, 11)", desk.join(10, 11), 11);
        Check.due("who(10)", desk.who(10), 3072);
    }
}
