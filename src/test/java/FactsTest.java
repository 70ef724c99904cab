/** Promises 4 to 11 and 20: what is told, shares, DEPOSITORS and what is reckoned of them, ways. */
final class FactsTest {
    static final String BOOK = "person ann 11 22;person bob 22 33 44 insider;person cem;person dee 9999;"
            + "trust ta ann 1 bob 2;trust tb ta 1 cem 0 dee 3;trust tz;"
            + "account x balance 1000 ann 1 tb 2;account y balance 7 tz 0 cem 1;"
            + "account z balance 103 ta 1 tb 1 ann 1;"
            + "high x 400 from 5 to 9;high z 9999 from 7 to 7;high y 5 from 0 to 999;"
            + "loan bob 50 due 6;loan dee 600 due 8;loan dee 30 due 3;cover 300;raise 100;closed 7;";
    private static final int LEAST = Integer.MIN_VALUE;
    private static final int MOST = Integer.MAX_VALUE;

    private FactsTest() {
    }

    public static void main(String[] args) {
        howManyMarks();
        firstSecondThirdMark();
        anInsider();
        hisDepositor();
        theFirstLetter();
        noSuchPerson();
        trusts();
        howDeepATrustGoes();
        noSuchTrust();
        accounts();
        howManyPersonsItCouldComeTo();
        noSuchAccount();
        shares();
        noSuchShare();
        who();
        noSuchWho();
        views();
        noSuchView();
        allTogether();
        noSuchAll();
        ranked();
        noSuchRanked();
        ways();
        noSuchWay();
        twelveDepositors();
        Check.finish("FactsTest");
    }

    private static void howManyMarks() {
        Check.sentence("Promise 4", "Of a PERSON, what 0: MARKS (how many),");
        PayoutDesk desk = Check.told("person a;person b 1;person c 2 3;person d 4 5 6;person e insider;");
        Check.answers("MARKS", p -> desk.person(p, 0), 0, 1, 2, 3, 0);
        desk.mark(4, true);
        Check.due("one LEFT OUT is his still", desk.person(3, 0), 3);
    }

    private static void firstSecondThirdMark() {
        Check.sentence("Promise 4", "1 to 3: the first, second, third MARK (0: none such),");
        PayoutDesk desk = Check.told("person a;person b 1;person c 9999 3;person d 40 5 60;");
        Check.answers("of none", w -> desk.person(0, w), 0, 0, 0, 0);
        Check.answers("of one", w -> desk.person(1, w), 1, 1, 0, 0);
        Check.answers("of two", w -> desk.person(2, w), 2, 9999, 3, 0);
        Check.answers("of three", w -> desk.person(3, w), 3, 40, 5, 60);
        // A PERSON of a BOOK ahead leaves no MARKS behind.
        Check.tell(desk, "person e 7;person f;");
        Check.answers("of one", w -> desk.person(0, w), 1, 7, 0, 0);
        Check.answers("of none", w -> desk.person(1, w), 0, 0, 0, 0);
    }

    private static void anInsider() {
        Check.sentence("Promise 4", "4: 1 an insider,");
        PayoutDesk desk = Check.told("person a 1;person b 1 insider;person c insider;person d;");
        Check.answers("insider", p -> desk.person(p, 4), 0, 1, 1, 0, -1);
        Check.tell(desk, "person a insider;person b;person c;");
        Check.answers("insider", p -> desk.person(p, 4), 1, 0, 0, -1);
    }

    private static void hisDepositor() {
        Check.sentence("Promise 4", "5: his DEPOSITOR,");
        PayoutDesk desk = Check.told("person a 1;person b;person c 1;person d 2;person e 2;");
        Check.answers("DEPOSITOR", p -> desk.person(p, 5), 0, 1, 0, 2, 2, -1);
        desk.join(4, 1);
        Check.answers("DEPOSITOR", p -> desk.person(p, 5), 0, 1, 0, 1, 1, -1);
    }

    private static void theFirstLetter() {
        Check.sentence("Promise 4", "6: the first letter of the NAME (a 0, .. z 25);");
        PayoutDesk desk = Check.told("person abcdefgh;person b;person yes;person zz;person ya;person z;");
        Check.answers("first letter", p -> desk.person(p, 6), 0, 1, 24, 25, 24, 25, -1);
    }

    private static void noSuchPerson() {
        Check.sentence("Promise 4", "NONE: others, none such.");
        PayoutDesk desk = Check.told(BOOK);
        Check.answers("person(3)", w -> desk.person(3, w), 1, 9999, 0, 0, 0, 2, 3, -1);
        Check.always("person(3)", w -> desk.person(3, w), -1, -1, 7, LEAST, MOST);
        for (int what = 0; what <= 6; what++) {
            final int w = what;
            Check.always("what " + w + " of person", p -> desk.person(p, w), -1, -1, 4, 12, LEAST, MOST);
        }
    }

    private static void trusts() {
        Check.sentence("Promise 5", "Of a TRUST, what 0: PARTS, 1: WEIGHTS together, 2: 1 it FAILS,");
        PayoutDesk desk = Check.told(BOOK);
        Check.answers("trust(0)", w -> desk.trust(0, w), 2, 3, 0);
        Check.answers("trust(1)", w -> desk.trust(1, w), 3, 4, 0);
        Check.answers("trust(2)", w -> desk.trust(2, w), 0, 0, 1);
        PayoutDesk most = Check.told("person a;person b;person c;person d;person e;trust t a 99 b 99 c 99 d 99 e 99;"
                + "trust u a 0 b 1;trust v a 0 b 0;trust w a 99 v 0;");
        Check.answers("trust(0)", w -> most.trust(0, w), 5, 495, 0);
        Check.answers("trust(1)", w -> most.trust(1, w), 2, 1, 0);
        Check.answers("trust(2)", w -> most.trust(2, w), 2, 0, 1);
        Check.answers("trust(3)", w -> most.trust(3, w), 2, 99, 1);
        // Of a BOOK behind it nothing is left.
        Check.tell(most, "person a;trust t;trust u a 1;");
        Check.answers("trust(0)", w -> most.trust(0, w), 0, 0, 1, 1);
        Check.answers("trust(1)", w -> most.trust(1, w), 1, 1, 0, 1);
    }

    private static void howDeepATrustGoes() {
        Check.sentence("Promise 5", "3: how deep it goes (1 with PERSONS alone or nothing; else 1 more than its deepest TRUST);");
        PayoutDesk desk = Check.told("person a;trust ta;trust tb a 1;trust tc ta 1 a 1;trust td tb 0 tc 0 ta 0;trust te tb 1 a 1;");
        Check.answers("how deep", t -> desk.trust(t, 3), 1, 1, 2, 3, 2, -1);
        PayoutDesk chain = Check.told("trust ta;trust tb ta 1;trust tc tb 1 ta 1;trust td tc 0;trust te ta 1 td 0;");
        Check.answers("how deep", t -> chain.trust(t, 3), 1, 2, 3, 4, 5, -1);
    }

    private static void noSuchTrust() {
        Check.sentence("Promise 5", "NONE: others, none such.");
        PayoutDesk desk = Check.told(BOOK);
        Check.answers("trust(2)", w -> desk.trust(2, w), 0, 0, 1, 1, -1);
        Check.always("trust(2)", w -> desk.trust(2, w), -1, -1, 4, LEAST, MOST);
        for (int what = 0; what <= 3; what++) {
            final int w = what;
            Check.always("what " + w + " of trust", t -> desk.trust(t, w), -1, -1, 3, 5, LEAST, MOST);
        }
    }

    private static void accounts() {
        Check.sentence("Promise 6", "Of an ACCOUNT, what 0: its balance now, 1: PARTS, 2: 1 it is FROZEN,");
        PayoutDesk desk = Check.told(BOOK);
        Check.answers("account(0)", w -> desk.account(0, w), 1000, 2, 0);
        Check.answers("account(1)", w -> desk.account(1, w), 7, 2, 1);
        Check.answers("account(2)", w -> desk.account(2, w), 103, 3, 0);
        desk.balance(1, 8);
        desk.balance(0, 0);
        Check.answers("its balance now", a -> desk.account(a, 0), 0, 8, 103);
        Check.answers("FROZEN", a -> desk.account(a, 2), 0, 1, 0);
        desk.undo();
        Check.answers("its balance now", a -> desk.account(a, 0), 1000, 8, 103);
        PayoutDesk most = Check.told("person a;person b;person c;person d;person e;"
                + "account x balance 9999999 a 0 b 0 c 0 d 0 e 1;account y balance 0 a 0;");
        Check.answers("account(0)", w -> most.account(0, w), 9999999, 5, 0);
        Check.answers("account(1)", w -> most.account(1, w), 0, 1, 1);
    }

    private static void howManyPersonsItCouldComeTo() {
        Check.sentence("Promise 6", "3: how many PERSONS it could come to, by any way and WEIGHT;");
        PayoutDesk desk = Check.told("person a;person b;person c;trust ta;trust tb a 1 b 0;trust tc tb 0 ta 0 c 0;"
                + "account u balance 5 ta 1;account v balance 5 a 0;account w balance 5 a 1 tb 1;account x balance 5 tc 0 a 0 tb 0;"
                + "account y balance 0 b 1 c 1;");
        Check.answers("PERSONS", a -> desk.account(a, 3), 0, 1, 2, 3, 2, -1);
        PayoutDesk most = Check.told(Check.several("person p", 12, ";") + "trust ta pa 1 pb 1 pc 1 pd 1 pe 1;"
                + "trust tb pf 1 pg 1 ph 1 pi 1 pj 1;account x balance 5 ta 1 tb 0 pk 1 pl 1;account y balance 5 ta 1 tb 1 pl 1;");
        Check.answers("PERSONS", a -> most.account(a, 3), 12, 11, -1);
    }

    private static void noSuchAccount() {
        Check.sentence("Promise 6", "NONE: others, none such.");
        PayoutDesk desk = Check.told(BOOK);
        Check.answers("account(2)", w -> desk.account(2, w), 103, 3, 0, 4, -1);
        Check.always("account(2)", w -> desk.account(2, w), -1, -1, 4, LEAST, MOST);
        for (int what = 0; what <= 3; what++) {
            final int w = what;
            Check.always("what " + w + " of account", a -> desk.account(a, w), -1, -1, 3, 10, LEAST, MOST);
        }
    }

    private static void shares() {
        Check.sentence("Promise 7", "SHARE of a PERSON of an ACCOUNT (0 of a FROZEN one);");
        PayoutDesk desk = Check.told(BOOK);
        int[][] want = {{388, 111, 0, 501}, {0, 0, 0, 0}, {48, 29, 0, 26}};
        for (int a = 0; a < 3; a++) {
            for (int p = 0; p < 4; p++) {
                Check.due("share(" + a + ", " + p + ")", desk.share(a, p), want[a][p]);
            }
        }
        desk.balance(1, 9999999);
        Check.due("of a FROZEN one", desk.share(1, 2), 0);
        desk.balance(0, 3);
        // 3: ann 1, tb 2: ta 0, cem 0, dee 2.
        Check.answers("of another balance", p -> desk.share(0, p), 1, 0, 0, 2);
    }

    private static void noSuchShare() {
        Check.sentence("Promise 7", "NoSuchElementException: none such.");
        PayoutDesk desk = Check.told(BOOK);
        Check.due("share(2, 3)", desk.share(2, 3), 26);
        for (int none : new int[] {-1, 3, 10, LEAST, MOST}) {
            Check.throwsNone("share(" + none + ", 0)", () -> desk.share(none, 0));
        }
        for (int none : new int[] {-1, 4, 12, LEAST, MOST}) {
            Check.throwsNone("share(0, " + none + ")", () -> desk.share(0, none));
            Check.throwsNone("share of a FROZEN one of " + none, () -> desk.share(1, none));
        }
        Check.throwsNone("share(MAX, MIN)", () -> desk.share(MOST, LEAST));
        PayoutDesk nobody = Check.told("cover 5;");
        Check.throwsNone("share(0, 0) of none", () -> nobody.share(0, 0));
    }

    private static void who() {
        Check.sentence("Promise 8", "PERSONS of a DEPOSITOR, as bits;");
        PayoutDesk desk = Check.told(BOOK);
        Check.answers("who", desk::who, 3, 4, 8);
        PayoutDesk chain = Check.told("person a 1 2;person b 5;person c 3 4;person d 5 6;person e 4 2;person f 6;person g;");
        Check.answers("who", chain::who, 1 + 4 + 16, 2 + 8 + 32, 64);
        chain.join(6, 2);
        Check.answers("who", chain::who, 1 + 4 + 16 + 64, 2 + 8 + 32);
        PayoutDesk most = Check.told(Check.several("person p", 12, " 5;"));
        Check.due("who of all", most.who(0), 4095);
        most.mark(5, true);
        Check.due("who of the last", most.who(11), 2048);
    }

    private static void noSuchWho() {
        Check.sentence("Promise 8", "NONE: none such.");
        PayoutDesk desk = Check.told(BOOK);
        Check.due("who(2)", desk.who(2), 8);
        Check.always("who", desk::who, -1, -1, 3, 4, 12, LEAST, MOST);
        desk.join(0, 3);
        Check.due("who(1)", desk.who(1), 4);
        Check.due("who(2): one fewer", desk.who(2), -1);
        PayoutDesk most = Check.told(Check.several("person p", 12, ";"));
        Check.due("who(11)", most.who(11), 2048);
        Check.due("who(12)", most.who(12), -1);
    }

    private static void views() {
        Check.sentence("Promise 9", "Of a DEPOSITOR, what 0: HAS, 1: OWES, 2: SET OFF, 3: NET, 4: HIGH, 5: LIMIT, 6: PAID, "
                + "7: CLAIM, 8: 1 an INSIDER;");
        PayoutDesk desk = Check.told(BOOK);
        Check.answers("view(0)", w -> desk.view(0, w), 576, 50, 50, 526, 276, 400, 400, 126, 1);
        Check.answers("view(1)", w -> desk.view(1, w), 0, 0, 0, 0, 0, 300, 0, 0, 0);
        Check.answers("view(2)", w -> desk.view(2, w), 527, 30, 30, 497, 227, 400, 400, 97, 0);
        desk.tell(0, 8);
        Check.answers("view(2)", w -> desk.view(2, w), 527, 630, 527, 0, 201, 400, 0, 0, 0);
    }

    private static void noSuchView() {
        Check.sentence("Promise 9", "NONE: others, none such.");
        PayoutDesk desk = Check.told(BOOK);
        Check.always("view(2)", w -> desk.view(2, w), -1, -1, 9, LEAST, MOST);
        for (int what = 0; what <= 8; what++) {
            final int w = what;
            Check.always("what " + w + " of view", d -> desk.view(d, w), -1, -1, 3, 12, LEAST, MOST);
        }
    }

    private static void allTogether() {
        Check.sentence("Promise 10", "All together, what 0: HAS, 1: SET OFF, 2: PAID, 3: CLAIM, 4: balances of FROZEN ACCOUNTS, "
                + "5: DEPOSITORS, 6: those with a CLAIM above 0;");
        PayoutDesk desk = Check.told(BOOK);
        Check.answers("all", desk::all, 1103, 80, 800, 223, 7, 3, 2);
        PayoutDesk most = Check.told("person a;person b;account ab balance 9999999 a 1;account ac balance 9999999 a 1;"
                + "account ad balance 9999999 a 1;account ae balance 9999999 a 1;account af balance 9999999 a 1;"
                + "account ag balance 9999999 a 1;account ah balance 9999999 a 1;account ai balance 9999999 a 1;"
                + "account aj balance 9999999 a 1;account ak balance 9999999 b 1;"
                + "cover 0;loan b 9999999 due 0;loan b 9999999 due 0;");
        Check.answers("all of the most", most::all, 99999990, 9999999, 0, 89999991, 0, 2, 1);
        // A CLAIM of one cent is above 0.
        PayoutDesk cent = Check.told("person a;person b;account x balance 5 a 1;account y balance 6 b 1;cover 5;");
        Check.answers("all", cent::all, 11, 0, 10, 1, 0, 2, 1);
        cent.tell(1, 6);
        Check.answers("all", cent::all, 11, 0, 11, 0, 0, 2, 0);
        PayoutDesk frozen = Check.told("person a;account x balance 5 a 0;account y balance 6 a 0;account z balance 9 a 1;");
        Check.answers("all", frozen::all, 9, 0, 9, 0, 11, 1, 0);
    }

    private static void noSuchAll() {
        Check.sentence("Promise 10", "NONE for others.");
        PayoutDesk desk = Check.told(BOOK);
        Check.always("all", desk::all, -1, -1, 7, 8, LEAST, MOST);
        Check.always("all without a BOOK", new PayoutDesk()::all, -1, -1, 7, LEAST, MOST);
    }

    private static void ranked() {
        Check.sentence("Promise 11", "DEPOSITORS by CLAIM, the greatest first, of like ones the lesser number: the k-th (from 0);");
        PayoutDesk desk = Check.told(BOOK);
        Check.answers("ranked", desk::ranked, 0, 2, 1);
        PayoutDesk like = Check.told("person a;person b;person c;person d;person e;"
                + "account x balance 80 a 1 b 2 c 1 d 2 e 2;cover 0;");
        Check.answers("ranked", like::ranked, 1, 3, 4, 0, 2);
        like.tell(1, 10);
        Check.answers("ranked, some with no CLAIM", like::ranked, 1, 3, 4, 0, 2);
        like.tell(1, 20);
        Check.answers("ranked, all with no CLAIM", like::ranked, 0, 1, 2, 3, 4);
        // By CLAIM, not by PAID or HAS: INSIDERS are ranked likewise.
        PayoutDesk loans = Check.told("person a;person b insider;account x balance 90 a 1;account y balance 80 b 1;"
                + "loan a 20 due 0;cover 60;");
        Check.answers("ranked", loans::ranked, 1, 0);
    }

    private static void noSuchRanked() {
        Check.sentence("Promise 11", "NONE: none such.");
        PayoutDesk desk = Check.told(BOOK);
        Check.due("ranked(2)", desk.ranked(2), 1);
        Check.always("ranked", desk::ranked, -1, -1, 3, 4, LEAST, MOST);
        PayoutDesk most = Check.told(Check.several("person p", 12, ";"));
        Check.due("ranked(11)", most.ranked(11), 11);
        Check.due("ranked(12)", most.ranked(12), -1);
    }

    private static void ways() {
        Check.sentence("Promise 20", "By how many ways (rows of PARTS) an ACCOUNT comes to a PERSON (WEIGHTS 0, too);");
        PayoutDesk desk = Check.told(BOOK);
        int[][] want = {{2, 1, 1, 1}, {0, 0, 1, 0}, {3, 2, 1, 1}};
        for (int a = 0; a < 3; a++) {
            for (int p = 0; p < 4; p++) {
                Check.due("ways(" + a + ", " + p + ")", desk.ways(a, p), want[a][p]);
            }
        }
        PayoutDesk many = Check.told("person a;trust ta a 1;trust tb a 1 ta 1;trust tc a 0 ta 1 tb 1;"
                + "trust td a 1 ta 1 tb 0 tc 1;trust te a 1 ta 1 tb 1 tc 1 td 1;"
                + "account x balance 1 te 1;account y balance 1 a 0 tb 0 tc 0 td 0 te 1;account z balance 1 a 0;");
        Check.answers("ways", a -> many.ways(a, 0), 16, 31, 1, -1);
        Check.due("account(1, 3)", many.account(1, 3), 1);
    }

    private static void noSuchWay() {
        Check.sentence("Promise 20", "NONE: none such.");
        PayoutDesk desk = Check.told(BOOK);
        Check.due("ways(2, 3)", desk.ways(2, 3), 1);
        Check.due("ways(1, 3): no way", desk.ways(1, 3), 0);
        Check.always("ways of account", a -> desk.ways(a, 0), -1, -1, 3, 10, LEAST, MOST);
        Check.always("ways to person", p -> desk.ways(0, p), -1, -1, 4, 12, LEAST, MOST);
    }

    /** A full BOOK in which nobody is one with another: each has his balance, 1 more than the one ahead. */
    private static void twelveDepositors() {
        StringBuilder text = new StringBuilder();
        for (int p = 0; p < 12; p++) {
            text.append("person p").append((char) ('a' + p)).append(p % 4 == 3 ? " insider;" : ";");
        }
        text.append("trust ta pa 1 pb 2 pc 3 pd 4 pe 5;trust tb pf 6 pg 7 ph 8 pi 9 pj 10;trust tc pk 11 pl 12;");
        text.append("account x balance 78 ta 15 tb 40 tc 23;cover 11;");
        PayoutDesk desk = Check.told(text.toString());
        Check.answers("all", desk::all, 78, 0, 77, 1, 0, 12, 1);
        desk.tell(1, 4);
        Check.answers("all", desk::all, 78, 0, 42, 36, 0, 12, 8);
        for (int d = 0; d < 12; d++) {
            long claim = Math.max(d + 1 - 4, 0);
            Check.due("NET of " + d, desk.view(d, 3), d + 1);
            Check.due("CLAIM of " + d, desk.view(d, 7), claim);
            Check.due("who(" + d + ")", desk.who(d), 1 << d);
            Check.due("person(" + d + ", 5)", desk.person(d, 5), d);
            Check.due("estate of " + d, desk.estate(1000, d), claim);
            Check.due("ranked", desk.ranked(d), d < 8 ? 11 - d : d - 8);
            Check.due("apart(" + d + ", 11)", desk.apart(d, 11), d == 11 ? 0 : -1);
        }
        Check.due("who(12)", desk.who(12), -1);
        Check.due("ranked(12)", desk.ranked(12), -1);
        Check.due("view(12, 0)", desk.view(12, 0), -1);
        Check.due("estate(5, 12)", desk.estate(5, 12), -2);
        // The INSIDERS are the 4th, 8th, 12th: their CLAIMS are 0, 4, 8.
        Check.due("enough(1)", desk.enough(1), 42 + 24);
        Check.due("enough(2)", desk.enough(2), 42 + 36);
        Check.due("estate(72, 7)", desk.estate(72, 7), 2);
        Check.due("estate(72, 11)", desk.estate(72, 11), 4);
        Check.due("onDay(5)", desk.onDay(5), 42);
        Check.due("coverFor(100)", desk.coverFor(100), 12);
        Check.due("joining(10, 11)", desk.joining(10, 11), -4);
        Check.due("join(10, 11)", desk.join(10, 11), 11);
        Check.due("who(10)", desk.who(10), 3072);
    }
}
