/** Promises 12 and 13: estate and enough. */
final class EstateTest {
    private EstateTest() {
    }

    public static void main(String[] args) {
        byRanks();
        sharedOutByClaims();
        nothingToBePaid();
        wrongInputs();
        Check.finish("EstateTest");
    }

    private static void byRanks() {
        PayoutDesk desk = Check.told(FactsTest.BOOK);
        long[][] want = {
            {0, 0, 0, 0, 0}, {799, 799, 0, 0, 0}, {800, 800, 0, 0, 0}, {850, 800, 0, 0, 50},
            {897, 800, 0, 0, 97}, {898, 800, 1, 0, 97}, {957, 800, 60, 0, 97},
            {1023, 800, 126, 0, 97}, {99999999, 800, 126, 0, 97}};
        for (long[] row : want) {
            for (int d = -1; d < 3; d++) {
                Check.due("estate(" + row[0] + ", " + d + ")", desk.estate((int) row[0], d), row[d + 2]);
            }
        }
        Check.due("enough(0)", desk.enough(0), 800);
        Check.due("enough(1)", desk.enough(1), 897);
        Check.due("enough(2)", desk.enough(2), 1023);
    }

    private static void sharedOutByClaims() {
        PayoutDesk desk = Check.told("person a;person b;person c insider;person d;person e insider;"
                + "account x balance 70 a 1 b 2 d 4;account y balance 30 e 2 c 1;cover 0;");
        long[][] want = {
            {35, 5, 10, 0, 20, 0}, {33, 4, 10, 0, 19, 0}, {1, 0, 0, 0, 1, 0}, {69, 9, 20, 0, 40, 0},
            {70, 10, 20, 0, 40, 0}, {71, 10, 20, 0, 40, 1}, {75, 10, 20, 1, 40, 4},
            {99, 10, 20, 9, 40, 20}, {100, 10, 20, 10, 40, 20}};
        for (long[] row : want) {
            for (int d = 0; d < 5; d++) {
                Check.due("estate(" + row[0] + ", " + d + ")", desk.estate((int) row[0], d), row[d + 1]);
            }
            Check.due("FUND", desk.estate((int) row[0], -1), 0);
        }
        Check.due("enough(0)", desk.enough(0), 0);
        Check.due("enough(1)", desk.enough(1), 70);
        Check.due("enough(2)", desk.enough(2), 100);
    }

    private static void nothingToBePaid() {
        PayoutDesk desk = Check.told("person a insider;person b;account x balance 50 a 1;account y balance 9 b 1;cover 10;");
        Check.due("enough(0)", desk.enough(0), 19);
        Check.due("enough(1)", desk.enough(1), 0);
        Check.due("enough(2)", desk.enough(2), 59);
        Check.due("estate(20, 0)", desk.estate(20, 0), 1);
        Check.due("estate(20, 1)", desk.estate(20, 1), 0);
        desk.tell(1, 60);
        Check.due("enough(2)", desk.enough(2), 0);
        Check.due("enough(0)", desk.enough(0), 59);
        // One of his PERSONS is an INSIDER: so is the DEPOSITOR, with all of his CLAIM.
        desk.tell(1, 0);
        desk.join(0, 1);
        Check.due("enough(1)", desk.enough(1), 0);
        Check.due("enough(2)", desk.enough(2), 59);
    }

    private static void wrongInputs() {
        PayoutDesk desk = Check.told(FactsTest.BOOK);
        Check.due("estate(-1, 0)", desk.estate(-1, 0), -2);
        Check.due("estate(-1, -1)", desk.estate(-1, -1), -2);
        Check.due("estate(100000000, -1)", desk.estate(100000000, -1), -2);
        Check.due("estate(100000000, 0)", desk.estate(100000000, 0), -2);
        Check.due("estate(5, 3)", desk.estate(5, 3), -2);
        Check.due("estate(5, -2)", desk.estate(5, -2), -2);
        Check.due("estate(5, MIN)", desk.estate(5, Integer.MIN_VALUE), -2);
        Check.due("enough(-1)", desk.enough(-1), -1);
        Check.due("enough(3)", desk.enough(3), -1);
    }
}
