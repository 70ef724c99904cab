/** What the document calls SHARES, DEPOSITORS, HAS .. INSIDER, THE ESTATE, ACTS and KEEPS. */
final class TermsTest {
    private static final int HAS = 0;
    private static final int OWES = 1;
    private static final int SET_OFF = 2;
    private static final int NET = 3;
    private static final int HIGH = 4;
    private static final int LIMIT = 5;
    private static final int PAID = 6;
    private static final int CLAIM = 7;
    private static final int INSIDER = 8;

    private TermsTest() {
    }

    public static void main(String[] args) {
        sharedOutDownwards();
        noWeightFails();
        trustsShareOutWhatTheyGet();
        oneThatFailsFailsAll();
        sharesByAllWays();
        frozenAccounts();
        depositors();
        numberedByTheirFirstPersons();
        marksLeftOut();
        has();
        owes();
        setOff();
        net();
        high();
        limit();
        paid();
        claim();
        insiders();
        theEstatePaysByRanks();
        theRanks();
        aRankNotInFull();
        acts();
        theLastSixteen();
        keeps();
        Check.finish("TermsTest");
    }

    private static void shares(PayoutDesk desk, int account, long... want) {
        Check.answers("SHARES of " + account, p -> desk.share(account, p), want);
    }

    private static void sharedOutDownwards() {
        Check.sentence("Terms 2", "TO SHARE OUT an amount by PARTS with WEIGHTS: with W all WEIGHTS together, and w those of the "
                + "first ones up to a PART (it, too): up to it there is amount * w / W, downwards; a PART gets what there is up "
                + "to it less what there is up to the one ahead.");
        PayoutDesk desk = Check.told("person a;person b;person c;account x balance 10 a 1 b 1 c 1;"
                + "account y balance 9999999 a 99 b 98 c 97;account z balance 2 c 1 b 1 a 1;account o balance 1 a 1 b 1;"
                + "account q balance 0 a 1 b 2;account r balance 5 a 0 b 3 c 0;");
        shares(desk, 0, 3, 3, 4);
        shares(desk, 1, 3367346, 3333333, 3299320);
        shares(desk, 2, 1, 1, 0);
        shares(desk, 3, 0, 1, 0);
        shares(desk, 4, 0, 0, 0);
        shares(desk, 5, 0, 5, 0);
        // 9999999 * 495 is more than 32 bits hold.
        PayoutDesk most = Check.told("person a;person b;person c;person d;person e;"
                + "account x balance 9999999 a 99 b 99 c 99 d 99 e 99;");
        shares(most, 0, 1999999, 2000000, 2000000, 2000000, 2000000);
        // One cent less, just as much, one cent more than goes by even thirds.
        long[][] thirds = {{2, 0, 1, 1}, {3, 1, 1, 1}, {4, 1, 1, 2}, {5, 1, 2, 2}, {6, 2, 2, 2}};
        for (long[] row : thirds) {
            desk.balance(0, (int) row[0]);
            shares(desk, 0, row[1], row[2], row[3]);
        }
    }

    private static void noWeightFails() {
        Check.sentence("Terms 2", "If W is 0 nothing can be shared out: it FAILS.");
        PayoutDesk desk = Check.told("person a;person b;trust t;trust u a 0;trust v a 0 b 0;trust w a 0 b 1;"
                + "account x balance 5 a 0 b 0;account y balance 5 a 0 b 1;account z balance 0 a 0;");
        Check.answers("TRUST FAILS", t -> desk.trust(t, 2), 1, 1, 1, 0);
        Check.answers("ACCOUNT FAILS", a -> desk.account(a, 2), 1, 0, 1);
        shares(desk, 0, 0, 0);
        shares(desk, 1, 0, 5);
        desk.balance(2, 7);
        shares(desk, 2, 0, 0);
    }

    private static void trustsShareOutWhatTheyGet() {
        Check.sentence("Terms 2", "What a TRUST gets is shared out by its PARTS, and so on (0 as well);");
        PayoutDesk desk = Check.told("person a;person b;trust ta a 1 b 1;trust tb ta 1 b 2;trust tc tb 3 a 1;trust td tc 1 b 1;"
                + "trust te td 2 a 1;account x balance 100 te 1;account y balance 7 ta 0 b 1;account z balance 1 ta 1 a 1;");
        // te: td 66, a 34; td: tc 33, b 33; tc: tb 24, a 9; tb: ta 8, b 16; ta: a 4, b 4.
        shares(desk, 0, 47, 53);
        Check.due("trust te is deep", desk.trust(4, 3), 5);
        shares(desk, 1, 0, 7);
        Check.due("a TRUST gets 0, and is not FROZEN", desk.account(1, 2), 0);
        shares(desk, 2, 1, 0);
    }

    private static void oneThatFailsFailsAll() {
        Check.sentence("Terms 2", "if any of them FAILS, all FAILS (also one with WEIGHT 0).");
        PayoutDesk desk = Check.told("person a;trust ta a 0;trust tb a 1 ta 0;trust tc tb 1;trust td a 1;trust te td 0 tc 0 a 5;"
                + "account x balance 5 a 1 tc 0;account y balance 6 td 0 a 1;account z balance 7 td 9 ta 0;"
                + "account o balance 0 a 9 te 1;");
        Check.answers("TRUST FAILS", t -> desk.trust(t, 2), 1, 1, 1, 0, 1);
        Check.answers("ACCOUNT FAILS", a -> desk.account(a, 2), 1, 0, 1, 1);
        Check.answers("SHARE of a", a -> desk.share(a, 0), 0, 6, 0, 0);
    }

    private static void sharesByAllWays() {
        Check.sentence("Terms 2", "SHARES of an ACCOUNT: what each PERSON gets of its balance, by all ways together;");
        PayoutDesk desk = Check.told("person a;person b;trust ta a 1;trust tb ta 1 a 1 b 1;"
                + "account x balance 40 a 1 ta 1 tb 2;account y balance 9 b 1;");
        // a 10, ta 10, tb 20: ta 6, a 7, b 7.
        shares(desk, 0, 33, 7);
        shares(desk, 1, 0, 9);
        // By each way by itself: 1 of 3 and 1 of 3 are 0 cents twice, not 1 of 2 once.
        PayoutDesk twice = Check.told("person a;person b;trust t a 1 b 1;trust u t 1;account x balance 2 t 1 u 1;");
        shares(twice, 0, 0, 2);
    }

    private static void frozenAccounts() {
        Check.sentence("Terms 2", "an ACCOUNT that FAILS is FROZEN: nobody gets anything.");
        PayoutDesk desk = Check.told("person a;person b;trust t;account x balance 100 a 1 b 1 t 0;account y balance 50 a 1;"
                + "high x 60 from 0 to 9;");
        shares(desk, 0, 0, 0);
        shares(desk, 1, 50, 0);
        Check.due("HAS", desk.all(0), 50);
        Check.due("PAID", desk.all(2), 50);
        Check.due("HIGH", desk.view(0, HIGH), 0);
        Check.due("balances of FROZEN ACCOUNTS", desk.all(4), 100);
    }

    private static void depositors() {
        Check.sentence("Terms 2", "DEPOSITORS: PERSONS are of one DEPOSITOR if they have a MARK alike, or are JOINED, and so on "
                + "from one to another.");
        PayoutDesk desk = Check.told("person a 1;person b 2;person c 2 3;person d 3 1;person e;person f 4;person g 5;");
        Check.answers("who", desk::who, 1 + 2 + 4 + 8, 16, 32, 64, -1);
        desk.join(4, 6);
        Check.answers("who", desk::who, 1 + 2 + 4 + 8, 16 + 64, 32, -1);
        desk.join(6, 2);
        Check.answers("who", desk::who, 1 + 2 + 4 + 8 + 16 + 64, 32, -1);
        desk.join(5, 0);
        Check.answers("who", desk::who, 127, -1);
        // Nobody is one with another by a NUMBER of MARKS, a first MARK and none, or an account.
        PayoutDesk alone = Check.told("person a 1 2 3;person b 12 13 23;person c;person d;account x balance 5 a 1 b 1 c 1 d 1;");
        Check.answers("who", alone::who, 1, 2, 4, 8, -1);
        PayoutDesk third = Check.told("person a 7 8 9;person b 4 5 9;person c 4 3 1;");
        Check.answers("who", third::who, 7, -1);
    }

    private static void numberedByTheirFirstPersons() {
        Check.sentence("Terms 2", "DEPOSITORS are numbered by their first PERSONS.");
        PayoutDesk desk = Check.told("person a 1;person b 2;person c 3;person d 2;person e 3;person f 1;");
        Check.answers("who", desk::who, 1 + 32, 2 + 8, 4 + 16, -1);
        Check.answers("DEPOSITOR", p -> desk.person(p, 5), 0, 1, 2, 1, 2, 0);
        desk.join(5, 3);
        Check.answers("who", desk::who, 1 + 32 + 2 + 8, 4 + 16, -1);
        Check.answers("DEPOSITOR", p -> desk.person(p, 5), 0, 0, 1, 0, 1, 0);
    }

    private static void marksLeftOut() {
        Check.sentence("Terms 2", "A MARK may be LEFT OUT: it makes nobody one.");
        PayoutDesk desk = Check.told("person a 1 2;person b 2 3;person c 3 2;person d 1;");
        Check.answers("who", desk::who, 15, -1);
        desk.mark(2, true);
        Check.answers("who", desk::who, 1 + 8, 2 + 4, -1);
        desk.mark(1, true);
        Check.answers("who", desk::who, 1, 2 + 4, 8, -1);
        desk.mark(3, true);
        Check.answers("who", desk::who, 1, 2, 4, 8, -1);
        Check.answers("the MARKS stay", w -> desk.person(0, w), 2, 1, 2, 0);
        desk.mark(2, false);
        Check.answers("who", desk::who, 7, 8, -1);
    }

    private static void has() {
        Check.sentence("Terms 2", "Of a DEPOSITOR: HAS: SHARES of his PERSONS of all ACCOUNTS together.");
        PayoutDesk desk = Check.told("person a 1;person b;person c 1;account x balance 10 a 1 b 1;account y balance 21 c 2 b 1;"
                + "account z balance 8 a 0;");
        Check.answers("HAS", d -> desk.view(d, HAS), 5 + 14, 5 + 7, -1);
        // HAS is no balance: what is owed, high or FROZEN is none of it.
        desk.balance(2, 9999999);
        Check.answers("HAS", d -> desk.view(d, HAS), 19, 12, -1);
        desk.balance(1, 0);
        Check.answers("HAS", d -> desk.view(d, HAS), 5, 5, -1);
    }

    private static void owes() {
        Check.sentence("Terms 2", "OWES: loans of his PERSONS due on the DAY closed or ahead of it.");
        PayoutDesk desk = Check.told("person a 1;person b;person c 1;loan a 10 due 5;loan c 200 due 7;loan b 3000 due 6;"
                + "loan a 40000 due 5;");
        long[][] days = {{0, 0, 0}, {4, 0, 0}, {5, 40010, 0}, {6, 40010, 3000}, {7, 40210, 3000}, {999, 40210, 3000}};
        for (long[] row : days) {
            desk.tell(0, (int) row[0]);
            Check.answers("OWES on " + row[0], d -> desk.view(d, OWES), row[1], row[2], -1);
        }
        PayoutDesk ends = Check.told("person a;loan a 1 due 0;loan a 2 due 999;");
        Check.due("on DAY 0", ends.view(0, OWES), 1);
        ends.tell(0, 998);
        Check.due("on DAY 998", ends.view(0, OWES), 1);
        ends.tell(0, 999);
        Check.due("on DAY 999", ends.view(0, OWES), 3);
    }

    private static void setOff() {
        Check.sentence("Terms 2", "SET OFF: OWES, but no more than he HAS.");
        PayoutDesk desk = Check.told("person a;account x balance 100 a 1;loan a 100 due 0;");
        for (int has : new int[] {0, 1, 99, 100, 101, 5000}) {
            desk.balance(0, has);
            Check.due("SET OFF of " + has, desk.view(0, SET_OFF), Math.min(has, 100));
            Check.due("OWES", desk.view(0, OWES), 100);
        }
    }

    private static void net() {
        Check.sentence("Terms 2", "NET: HAS less SET OFF.");
        PayoutDesk desk = Check.told("person a;account x balance 100 a 1;loan a 100 due 0;");
        int[][] rows = {{0, 0}, {99, 0}, {100, 0}, {101, 1}, {5000, 4900}};
        for (int[] row : rows) {
            desk.balance(0, row[0]);
            Check.due("NET of " + row[0], desk.view(0, NET), row[1]);
        }
    }

    private static void high() {
        Check.sentence("Terms 2", "HIGH: of each high that counts on the DAY closed (from its first DAY to its second one, both "
                + "too), of an ACCOUNT that is not FROZEN: its amount, but no more than the balance, shared out likewise: what "
                + "his PERSONS get, together.");
        PayoutDesk desk = Check.told("person a 1;person b;person c 1;trust t b 1 c 1;account x balance 100 a 1 t 2;"
                + "account y balance 50 a 0;high x 60 from 5 to 7;high x 99 from 7 to 7;high y 50 from 5 to 9;raise 9999999;");
        // 60: a 20, t 40: b 20, c 20. 99: a 33, t 66: b 33, c 33.
        long[][] days = {{4, 0, 0}, {5, 40, 20}, {6, 40, 20}, {7, 106, 53}, {8, 0, 0}};
        for (long[] row : days) {
            desk.tell(0, (int) row[0]);
            Check.answers("HIGH on " + row[0], d -> desk.view(d, HIGH), row[1], row[2], -1);
        }
        desk.tell(0, 7);
        // No more than the balance, of each high by itself: 98 of 99; 60 and 59 of 60.
        long[][] balances = {{98, 40 + 65, 20 + 33}, {60, 40 + 40, 20 + 20}, {59, 39 + 39, 20 + 20}, {0, 0, 0}};
        for (long[] row : balances) {
            desk.balance(0, (int) row[0]);
            Check.answers("HIGH with " + row[0], d -> desk.view(d, HIGH), row[1], row[2], -1);
        }
        PayoutDesk ends = Check.told("person a;account x balance 9 a 1;high x 1 from 0 to 0;high x 2 from 999 to 999;");
        Check.due("on DAY 0", ends.view(0, HIGH), 1);
        ends.tell(0, 1);
        Check.due("on DAY 1", ends.view(0, HIGH), 0);
        ends.tell(0, 999);
        Check.due("on DAY 999", ends.view(0, HIGH), 2);
    }

    private static void limit() {
        Check.sentence("Terms 2", "LIMIT: cover, and HIGH but no more than raise.");
        PayoutDesk desk = Check.told("person a;person b;account x balance 100 a 1;high x 60 from 5 to 7;cover 10;raise 60;closed 5;");
        int[][] raises = {{0, 10}, {59, 69}, {60, 70}, {61, 70}, {9999999, 70}};
        for (int[] row : raises) {
            desk.tell(2, row[0]);
            Check.due("LIMIT with raise " + row[0], desk.view(0, LIMIT), row[1]);
        }
        Check.due("LIMIT of one without HIGH", desk.view(1, LIMIT), 10);
        desk.tell(1, 0);
        Check.answers("LIMIT without cover", d -> desk.view(d, LIMIT), 60, 0, -1);
        desk.tell(0, 4);
        Check.answers("LIMIT ahead of the high", d -> desk.view(d, LIMIT), 0, 0, -1);
    }

    private static void paid() {
        Check.sentence("Terms 2", "PAID: NET, but no more than LIMIT.");
        PayoutDesk desk = Check.told("person a;account x balance 100 a 1;high x 10 from 0 to 0;loan a 20 due 0;cover 70;raise 10;");
        int[][] balances = {{0, 0}, {20, 0}, {21, 1}, {99, 79}, {100, 80}, {101, 80}, {9999999, 80}};
        for (int[] row : balances) {
            desk.balance(0, row[0]);
            Check.due("PAID of " + row[0], desk.view(0, PAID), row[1]);
        }
    }

    private static void claim() {
        Check.sentence("Terms 2", "CLAIM: NET less PAID.");
        PayoutDesk desk = Check.told("person a;account x balance 100 a 1;loan a 20 due 0;cover 70;");
        int[][] balances = {{0, 0}, {20, 0}, {89, 0}, {90, 0}, {91, 1}, {9999999, 9999909}};
        for (int[] row : balances) {
            desk.balance(0, row[0]);
            Check.due("CLAIM of " + row[0], desk.view(0, CLAIM), row[1]);
        }
    }

    private static void insiders() {
        Check.sentence("Terms 2", "He is an INSIDER if one of his PERSONS is.");
        PayoutDesk desk = Check.told("person a 1;person b insider;person c 1 insider;person d 2;person e 2;person f;");
        Check.answers("INSIDER", d -> desk.view(d, INSIDER), 1, 1, 0, 0, -1);
        desk.mark(1, true);
        Check.answers("INSIDER", d -> desk.view(d, INSIDER), 0, 1, 1, 0, 0, -1);
        desk.join(5, 1);
        Check.answers("INSIDER", d -> desk.view(d, INSIDER), 0, 1, 1, 0, -1);
        Check.answers("of PERSONS", p -> desk.person(p, 4), 0, 1, 1, 0, 0, 0);
    }

    private static void gets(PayoutDesk desk, int money, long fund, long... depositors) {
        Check.due("FUND of " + money, desk.estate(money, -1), fund);
        Check.answers("of " + money + " gets", d -> desk.estate(money, d), depositors);
    }

    private static void theEstatePaysByRanks() {
        Check.sentence("Terms 2", "THE ESTATE with so much money pays by RANKS, each as far as the money goes, the next one when "
                + "the one ahead is paid in full:");
        // The FUND 30, a 90, c an INSIDER 40.
        PayoutDesk desk = Check.told("person a;person c insider;account x balance 100 a 1;account y balance 60 c 1;cover 10;"
                + "high y 10 from 0 to 0;");
        gets(desk, 0, 0, 0, 0);
        gets(desk, 29, 29, 0, 0);
        gets(desk, 30, 30, 0, 0);
        gets(desk, 31, 30, 1, 0);
        gets(desk, 119, 30, 89, 0);
        gets(desk, 120, 30, 90, 0);
        gets(desk, 121, 30, 90, 1);
        gets(desk, 159, 30, 90, 39);
        gets(desk, 160, 30, 90, 40);
        gets(desk, 161, 30, 90, 40);
        gets(desk, 99999999, 30, 90, 40);
    }

    private static void theRanks() {
        Check.sentence("Terms 2", "RANK 0 the FUND, what is PAID to all; RANK 1 CLAIMS of those who are no INSIDERS; RANK 2 "
                + "CLAIMS of INSIDERS;");
        PayoutDesk desk = Check.told("person a insider;person b;person c 1;person d 1 insider;"
                + "account x balance 40 a 1;account y balance 30 b 1;account z balance 50 c 1;cover 10;");
        // PAID 10 each; CLAIMS: a 30, b 20, c with d 40.
        Check.due("FUND", desk.all(2), 30);
        gets(desk, 50, 30, 0, 20, 0);
        gets(desk, 120, 30, 30, 20, 40);
        gets(desk, 85, 30, 15, 20, 20);
        // No longer one with an INSIDER: his CLAIM is of RANK 1.
        desk.mark(1, true);
        gets(desk, 90, 30, 0, 20, 40, 0);
        gets(desk, 105, 30, 15, 20, 40, 0);
    }

    private static void aRankNotInFull() {
        Check.sentence("Terms 2", "a RANK that can't be paid in full: the money that is left is shared out by CLAIMS as WEIGHTS.");
        PayoutDesk desk = Check.told("person a;person b;person c insider;person d;person e insider;"
                + "account x balance 70 a 1 b 2 d 4;account y balance 30 e 2 c 1;cover 0;");
        gets(desk, 1, 0, 0, 0, 0, 1, 0);
        gets(desk, 33, 0, 4, 10, 0, 19, 0);
        gets(desk, 35, 0, 5, 10, 0, 20, 0);
        gets(desk, 69, 0, 9, 20, 0, 40, 0);
        gets(desk, 70, 0, 10, 20, 0, 40, 0);
        gets(desk, 71, 0, 10, 20, 0, 40, 1);
        gets(desk, 75, 0, 10, 20, 1, 40, 4);
        gets(desk, 99, 0, 10, 20, 9, 40, 20);
        gets(desk, 100, 0, 10, 20, 10, 40, 20);
        // Money times CLAIMS is more than 32 bits hold.
        PayoutDesk most = Check.told("person a;person b;account x balance 9999999 a 1;account y balance 9999999 b 1;cover 0;");
        gets(most, 9999999, 0, 4999999, 5000000);
        gets(most, 19999997, 0, 9999998, 9999999);
        gets(most, 19999998, 0, 9999999, 9999999);
    }

    private static void acts() {
        Check.sentence("Terms 2", "ACTS: a balance is told anew; two PERSONS are JOINED; SPLIT: the latest JOIN that there is of "
                + "a PERSON (as one of the two) is no more; the DAY closed, cover, raise are told anew; a MARK is LEFT OUT, or "
                + "counts again.");
        PayoutDesk desk = Check.told("person a 1;person b;person c;account x balance 5 a 1;");
        desk.balance(0, 6);
        Check.due("ACTS", desk.count(10), 1);
        desk.join(0, 1);
        desk.join(2, 0);
        desk.join(1, 2);
        Check.due("ACTS", desk.count(10), 4);
        Check.due("split(0): the latest of a, not of all", desk.split(0), 2);
        Check.due("split(0): the one ahead of it", desk.split(0), 1);
        Check.due("split(0): none is left", desk.split(0), -1);
        Check.due("split(2): its own is there", desk.split(2), 1);
        Check.due("ACTS", desk.count(10), 7);
        for (int what = 0; what <= 2; what++) {
            desk.tell(what, 9);
        }
        Check.due("ACTS", desk.count(10), 10);
        desk.mark(1, true);
        desk.mark(1, false);
        Check.due("ACTS", desk.count(10), 12);
        // Neither a KEEP that is laid nor a question is an ACT.
        desk.keep(0, false);
        desk.joining(0, 1);
        desk.markless(1);
        desk.onDay(3);
        Check.due("ACTS", desk.count(10), 12);
    }

    private static void theLastSixteen() {
        Check.sentence("Terms 2", "The last 16 can be UNDONE, one by one (what is told as it is already is an ACT, too).");
        PayoutDesk desk = Check.told("person a 1;person b 1;account x balance 100 a 1;");
        for (int i = 1; i <= 15; i++) {
            desk.balance(0, 100 + i);
        }
        Check.due("after 15", desk.count(10), 15);
        desk.balance(0, 116);
        Check.due("after 16", desk.count(10), 16);
        desk.balance(0, 117);
        Check.due("after 17", desk.count(10), 16);
        for (int i = 15; i >= 0; i--) {
            Check.due("undo", desk.undo(), i);
            Check.due("balance", desk.account(0, 0), 101 + i);
        }
        Check.due("the first ACT stays", desk.undo(), -1);
        Check.due("balance", desk.account(0, 0), 101);
        // Told as it is already: each is an ACT.
        desk.balance(0, 101);
        desk.tell(0, 0);
        desk.tell(1, 100000);
        desk.tell(2, 50000);
        desk.mark(1, false);
        desk.mark(1, true);
        desk.mark(1, true);
        desk.join(0, 1);
        desk.join(0, 1);
        Check.due("ACTS", desk.count(10), 9);
        for (int i = 8; i >= 0; i--) {
            Check.due("undo", desk.undo(), i);
        }
        Check.due("undo", desk.undo(), -1);
    }

    private static void keeps() {
        Check.sentence("Terms 2", "KEEPS 0 to 2 hold what ACTS change (nothing can be UNDONE when one is gone back to).");
        PayoutDesk desk = Check.told("person a 1;person b 1;person c;account x balance 100 a 1;");
        for (int k = 0; k <= 2; k++) {
            desk.balance(0, 10 + k);
            Check.due("keep(" + k + ")", desk.keep(k, false), true);
        }
        Check.due("keep(-1)", desk.keep(-1, false), false);
        Check.due("keep(3)", desk.keep(3, false), false);
        Check.due("laid: all can be UNDONE", desk.count(10), 3);
        for (int k = 2; k >= 0; k--) {
            desk.balance(0, 50);
            desk.join(0, 2);
            desk.mark(1, true);
            desk.tell(0, 5);
            desk.tell(1, 6);
            desk.tell(2, 7);
            Check.due("back to " + k, desk.keep(k, true), true);
            Check.answers("count", desk::count, 3, 0, 1, 0, 0, 0, 100000, 50000, 0, 0, 0);
            Check.due("balance", desk.account(0, 0), 10 + k);
            Check.due("DEPOSITORS", desk.all(5), 2);
            Check.due("undo", desk.undo(), -1);
            Check.due("balance", desk.account(0, 0), 10 + k);
        }
    }
}
