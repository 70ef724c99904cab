/** Promises 12 and 13: estate and enough. */
final class EstateTest {
    private static final int LEAST = Integer.MIN_VALUE;
    private static final int MOST = Integer.MAX_VALUE;

    private EstateTest() {
    }

    public static void main(String[] args) {
        whatEachGets();
        moneyWithinItsBounds();
        noSuchEstate();
        theLeastMoney();
        nothingToBePaid();
        noSuchRank();
        Check.finish("EstateTest");
    }

    private static void whatEachGets() {
        Check.sentence("Promise 12", "what a DEPOSITOR gets of it (NONE: what the FUND gets);");
        PayoutDesk desk = Check.told(FactsTest.BOOK);
        long[][] want = {
            {0, 0, 0, 0, 0}, {799, 799, 0, 0, 0}, {800, 800, 0, 0, 0}, {801, 800, 0, 0, 1}, {850, 800, 0, 0, 50},
            {897, 800, 0, 0, 97}, {898, 800, 1, 0, 97}, {957, 800, 60, 0, 97},
            {1022, 800, 125, 0, 97}, {1023, 800, 126, 0, 97}, {1024, 800, 126, 0, 97}, {99999999, 800, 126, 0, 97}};
        for (long[] row : want) {
            for (int d = -1; d < 3; d++) {
                Check.due("estate(" + row[0] + ", " + d + ")", desk.estate((int) row[0], d), row[d + 2]);
            }
        }
    }

    private static void moneyWithinItsBounds() {
        Check.sentence("Promise 12", "THE ESTATE with money (0 to 99999999):");
        PayoutDesk desk = Check.told("person a;" + Check.several("account x", 10, " balance 9999999 a 1;") + "cover 0;");
        Check.due("estate(0, 0)", desk.estate(0, 0), 0);
        Check.due("estate(-1, 0)", desk.estate(-1, 0), -2);
        Check.due("estate(99999999, 0)", desk.estate(99999999, 0), 99999990);
        Check.due("estate(99999989, 0)", desk.estate(99999989, 0), 99999989);
        Check.due("estate(100000000, 0)", desk.estate(100000000, 0), -2);
        Check.due("estate(0, -1)", desk.estate(0, -1), 0);
        Check.due("estate(99999999, -1)", desk.estate(99999999, -1), 0);
        desk.tell(1, 9999999);
        Check.due("estate(99999999, -1)", desk.estate(99999999, -1), 9999999);
    }

    private static void noSuchEstate() {
        Check.sentence("Promise 12", "-2: others, none such.");
        PayoutDesk desk = Check.told(FactsTest.BOOK);
        for (int money : new int[] {-1, 100000000, LEAST, MOST}) {
            Check.always("estate of " + money, d -> desk.estate(money, d), -2, -1, 0, 2, 3, LEAST, MOST);
        }
        for (int money : new int[] {0, 5, 99999999}) {
            Check.always("estate of " + money, d -> desk.estate(money, d), -2, -2, 3, 12, LEAST, MOST);
        }
        PayoutDesk none = new PayoutDesk();
        Check.due("FUND without a BOOK", none.estate(99999999, -1), 0);
        Check.due("DEPOSITOR without a BOOK", none.estate(5, 0), -2);
        Check.due("money below 0 without a BOOK", none.estate(-1, -1), -2);
    }

    /** With the least money a RANK is paid in full, and with a cent less it is not. */
    private static void theLeastMoney() {
        Check.sentence("Promise 13", "The least money with which all of a RANK (0 to 2) are paid in full");
        PayoutDesk desk = Check.told(FactsTest.BOOK);
        Check.answers("enough", desk::enough, 800, 897, 1023);
        Check.due("FUND", desk.estate(800, -1), 800);
        Check.due("FUND of a cent less", desk.estate(799, -1), 799);
        Check.due("RANK 1", desk.estate(897, 2), 97);
        Check.due("RANK 1 of a cent less", desk.estate(896, 2), 96);
        Check.due("RANK 2", desk.estate(1023, 0), 126);
        Check.due("RANK 2 of a cent less", desk.estate(1022, 0), 125);
        PayoutDesk five = Check.told("person a;person b;person c insider;person d;person e insider;"
                + "account x balance 70 a 1 b 2 d 4;account y balance 30 e 2 c 1;cover 0;");
        Check.answers("enough", five::enough, 0, 70, 100);
        PayoutDesk most = Check.told("person a;person b insider;" + Check.several("account x", 9, " balance 9999999 a 1;")
                + "account y balance 9999999 b 1;cover 1;");
        Check.answers("enough", most::enough, 2, 89999992, 99999990);
    }

    private static void nothingToBePaid() {
        Check.sentence("Promise 13", "(0 if there is nothing to be paid in it);");
        PayoutDesk desk = Check.told("person a insider;person b;account x balance 50 a 1;account y balance 9 b 1;cover 10;");
        Check.answers("none in RANK 1", desk::enough, 19, 0, 59);
        desk.tell(1, 60);
        Check.answers("none but the FUND", desk::enough, 59, 0, 0);
        desk.tell(1, 0);
        Check.answers("none in the FUND", desk::enough, 0, 9, 59);
        desk.tell(1, 49);
        Check.answers("a cent in RANK 2", desk::enough, 58, 0, 59);
        // One of his PERSONS is an INSIDER: so is the DEPOSITOR, with all of his CLAIM.
        desk.tell(1, 0);
        desk.join(0, 1);
        Check.answers("all in RANK 2", desk::enough, 0, 0, 59);
        desk.balance(0, 0);
        desk.balance(1, 0);
        Check.answers("nothing at all", desk::enough, 0, 0, 0);
    }

    private static void noSuchRank() {
        Check.sentence("Promise 13", "NONE for others.");
        PayoutDesk desk = Check.told(FactsTest.BOOK);
        Check.always("enough", desk::enough, -1, -1, 3, LEAST, MOST);
        Check.always("enough without a BOOK", new PayoutDesk()::enough, -1, -1, 3, LEAST, MOST);
        Check.always("enough without a BOOK", new PayoutDesk()::enough, 0, 0, 1, 2);
    }
}
