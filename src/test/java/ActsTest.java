/** Promises 21 to 28: acts, undo, keeps, count. */
final class ActsTest {
    private ActsTest() {
    }

    public static void main(String[] args) {
        balances();
        joins();
        thirtyJoins();
        splits();
        settings();
        marks();
        undo();
        sixteenCanBeUndone();
        whatIsToldAsItIsIsAnAct();
        whatIsRefusedIsNoAct();
        undoOfASplitPutsTheJoinBack();
        keeps();
        keepsHoldAllThatActsChange();
        counts();
        Check.finish("ActsTest");
    }

    private static final String PEOPLE =
            "person a 1;person b 1;person c;person d;account x balance 100 a 1;account y balance 50 c 1 d 1;";

    private static void balances() {
        PayoutDesk desk = Check.told(PEOPLE);
        Check.due("balance(1, 60)", desk.balance(1, 60), 50);
        Check.due("balance(1, 0)", desk.balance(1, 0), 60);
        Check.due("balance(1, 9999999)", desk.balance(1, 9999999), 0);
        Check.due("SHARE", desk.share(1, 2), 4999999);
        Check.due("SHARE", desk.share(1, 3), 5000000);
        Check.due("balance(1, 10000000)", desk.balance(1, 10000000), -1);
        Check.due("balance(1, -1)", desk.balance(1, -1), -1);
        Check.due("balance(2, 5)", desk.balance(2, 5), -1);
        Check.due("balance(-1, 5)", desk.balance(-1, 5), -1);
        Check.due("account(1, 0)", desk.account(1, 0), 9999999);
        Check.due("ACTS", desk.count(10), 3);
    }

    private static void joins() {
        PayoutDesk desk = Check.told(PEOPLE);
        Check.due("DEPOSITORS", desk.all(5), 3);
        Check.due("join(0, 1)", desk.join(0, 1), 3);
        Check.due("join(3, 2)", desk.join(3, 2), 2);
        Check.due("join(1, 3)", desk.join(1, 3), 1);
        Check.due("who(0)", desk.who(0), 15);
        Check.due("join(0, 0)", desk.join(0, 0), -1);
        Check.due("join(0, 4)", desk.join(0, 4), -1);
        Check.due("join(4, 0)", desk.join(4, 0), -1);
        Check.due("join(-1, 0)", desk.join(-1, 0), -1);
        Check.due("JOINS", desk.count(8), 3);
    }

    private static void thirtyJoins() {
        PayoutDesk desk = Check.told(PEOPLE);
        for (int i = 1; i <= 30; i++) {
            Check.due("join " + i, desk.join(2, 3), 2);
            Check.due("JOINS", desk.count(8), i);
        }
        Check.due("join 31", desk.join(0, 2), -1);
        Check.due("JOINS", desk.count(8), 30);
        Check.due("split", desk.split(3), 2);
        Check.due("join again", desk.join(0, 2), 1);
        Check.due("join 31", desk.join(0, 2), -1);
    }

    private static void splits() {
        PayoutDesk desk = Check.told(PEOPLE);
        Check.due("split(0)", desk.split(0), -1);
        desk.join(0, 2);
        desk.join(3, 0);
        desk.join(2, 3);
        Check.due("split(0)", desk.split(0), 3);
        Check.due("split(0)", desk.split(0), 2);
        Check.due("split(0)", desk.split(0), -1);
        Check.due("DEPOSITORS", desk.all(5), 2);
        Check.due("split(3)", desk.split(3), 2);
        Check.due("DEPOSITORS", desk.all(5), 3);
        Check.due("split(1): a MARK is no JOIN", desk.split(1), -1);
        Check.due("split(4)", desk.split(4), -1);
        Check.due("split(-1)", desk.split(-1), -1);
        Check.due("ACTS", desk.count(10), 6);
    }

    private static void settings() {
        PayoutDesk desk = Check.told(PEOPLE);
        Check.due("tell(0, 5)", desk.tell(0, 5), 0);
        Check.due("tell(0, 999)", desk.tell(0, 999), 5);
        Check.due("tell(0, 1000)", desk.tell(0, 1000), -1);
        Check.due("tell(0, -1)", desk.tell(0, -1), -1);
        Check.due("tell(1, 9999999)", desk.tell(1, 9999999), 100000);
        Check.due("tell(1, 10000000)", desk.tell(1, 10000000), -1);
        Check.due("tell(1, -1)", desk.tell(1, -1), -1);
        Check.due("tell(1, 0)", desk.tell(1, 0), 9999999);
        Check.due("tell(2, 9999999)", desk.tell(2, 9999999), 50000);
        Check.due("tell(2, 10000000)", desk.tell(2, 10000000), -1);
        Check.due("tell(2, -1)", desk.tell(2, -1), -1);
        Check.due("tell(3, 1)", desk.tell(3, 1), -1);
        Check.due("tell(-1, 1)", desk.tell(-1, 1), -1);
        Check.due("closed", desk.count(5), 999);
        Check.due("cover", desk.count(6), 0);
        Check.due("raise", desk.count(7), 9999999);
        Check.due("ACTS", desk.count(10), 5);
        Check.due("PAID", desk.all(2), 0);
    }

    private static void marks() {
        PayoutDesk desk = Check.told("person a 1 2;person b 1 2;person c 2 9;");
        Check.due("mark(1, true)", desk.mark(1, true), true);
        Check.due("LEFT OUT", desk.count(9), 1);
        Check.due("DEPOSITORS", desk.all(5), 1);
        Check.due("mark(2, true)", desk.mark(2, true), true);
        Check.due("DEPOSITORS", desk.all(5), 3);
        Check.due("mark(9, true)", desk.mark(9, true), true);
        Check.due("mark(9, true)", desk.mark(9, true), true);
        Check.due("LEFT OUT", desk.count(9), 3);
        Check.due("mark(1, false)", desk.mark(1, false), true);
        Check.due("DEPOSITORS", desk.all(5), 2);
        Check.due("MARKS", desk.person(0, 0), 2);
        Check.due("mark(3, true)", desk.mark(3, true), false);
        Check.due("mark(3, false)", desk.mark(3, false), false);
        Check.due("mark(0, true)", desk.mark(0, true), false);
        Check.due("mark(-1, true)", desk.mark(-1, true), false);
        Check.due("ACTS", desk.count(10), 5);
        PayoutDesk most = Check.told("person a 1 2 3;person b 4 5 6;person c 7 8 9;person d 10 11 12;person e 13 14 15;"
                + "person f 16 17 18;person g 19 20 21;person h 22 23 24;person i 25 26 27;person j 28 29 30;"
                + "person k 31 32 33;person l 34 35 36;");
        for (int mark = 1; mark <= 36; mark++) {
            Check.due("mark(" + mark + ", true)", most.mark(mark, true), true);
            Check.due("LEFT OUT", most.count(9), mark);
        }
        Check.due("mark(36, false)", most.mark(36, false), true);
        Check.due("LEFT OUT", most.count(9), 35);
    }

    private static void undo() {
        PayoutDesk desk = Check.told(PEOPLE);
        desk.balance(0, 1);
        desk.join(0, 2);
        desk.split(2);
        desk.tell(0, 9);
        desk.tell(1, 8);
        desk.tell(2, 7);
        desk.mark(1, true);
        Check.due("undo mark", desk.undo(), 6);
        Check.due("LEFT OUT", desk.count(9), 0);
        Check.due("undo raise", desk.undo(), 5);
        Check.due("raise", desk.count(7), 50000);
        Check.due("undo cover", desk.undo(), 4);
        Check.due("cover", desk.count(6), 100000);
        Check.due("undo closed", desk.undo(), 3);
        Check.due("closed", desk.count(5), 0);
        Check.due("undo split", desk.undo(), 2);
        Check.due("DEPOSITORS", desk.all(5), 2);
        Check.due("undo join", desk.undo(), 1);
        Check.due("DEPOSITORS", desk.all(5), 3);
        Check.due("undo balance", desk.undo(), 0);
        Check.due("balance", desk.account(0, 0), 100);
        Check.due("SHARE", desk.share(0, 0), 100);
        Check.due("undo", desk.undo(), -1);
    }

    private static void sixteenCanBeUndone() {
        PayoutDesk desk = Check.told(PEOPLE);
        for (int i = 1; i <= 40; i++) {
            desk.balance(0, 1000 + i);
            Check.due("ACTS", desk.count(10), Math.min(i, 16));
        }
        for (int i = 15; i >= 5; i--) {
            Check.due("undo", desk.undo(), i);
            Check.due("balance", desk.account(0, 0), 1024 + i);
        }
        for (int i = 1; i <= 3; i++) {
            desk.balance(0, i);
        }
        for (int i = 7; i >= 5; i--) {
            Check.due("undo", desk.undo(), i);
        }
        for (int i = 4; i >= 0; i--) {
            Check.due("undo", desk.undo(), i);
            Check.due("balance", desk.account(0, 0), 1024 + i);
        }
        Check.due("undo", desk.undo(), -1);
        Check.due("balance", desk.account(0, 0), 1024);
    }

    private static void whatIsToldAsItIsIsAnAct() {
        PayoutDesk desk = Check.told(PEOPLE);
        Check.due("balance", desk.balance(0, 100), 100);
        Check.due("tell", desk.tell(0, 0), 0);
        Check.due("mark", desk.mark(1, false), true);
        Check.due("join", desk.join(0, 1), 3);
        Check.due("ACTS", desk.count(10), 4);
        Check.due("undo", desk.undo(), 3);
        Check.due("undo", desk.undo(), 2);
    }

    private static void whatIsRefusedIsNoAct() {
        PayoutDesk desk = Check.told(PEOPLE);
        desk.balance(9, 1);
        desk.join(0, 0);
        desk.split(0);
        desk.tell(0, 1000);
        desk.mark(7, true);
        desk.undo();
        desk.keep(5, false);
        Check.due("ACTS", desk.count(10), 0);
    }

    private static void undoOfASplitPutsTheJoinBack() {
        PayoutDesk desk = Check.told(PEOPLE);
        desk.join(0, 2);
        desk.join(0, 3);
        desk.join(2, 3);
        Check.due("split(0)", desk.split(0), 3);
        Check.due("undo", desk.undo(), 3);
        Check.due("split(3): the later JOIN", desk.split(3), 2);
        Check.due("split(3)", desk.split(3), 0);
        Check.due("split(3)", desk.split(3), -1);
        Check.due("split(2)", desk.split(2), 0);
    }

    private static void keeps() {
        PayoutDesk desk = Check.told(PEOPLE);
        for (int k = 0; k <= 2; k++) {
            Check.due("keep back " + k, desk.keep(k, true), false);
        }
        Check.due("keep(0)", desk.keep(0, false), true);
        desk.balance(0, 5);
        Check.due("keep(2)", desk.keep(2, false), true);
        desk.balance(0, 6);
        Check.due("ACTS", desk.count(10), 2);
        Check.due("back to 0", desk.keep(0, true), true);
        Check.due("balance", desk.account(0, 0), 100);
        Check.due("SHARE", desk.share(0, 0), 100);
        Check.due("undo", desk.undo(), -1);
        Check.due("back to 2", desk.keep(2, true), true);
        Check.due("balance", desk.account(0, 0), 5);
        Check.due("back to 1", desk.keep(1, true), false);
        desk.balance(0, 7);
        Check.due("back to 1 is nothing", desk.keep(1, true), false);
        Check.due("ACTS", desk.count(10), 1);
        Check.due("keep(0) anew", desk.keep(0, false), true);
        desk.balance(0, 8);
        Check.due("undo", desk.undo(), 1);
        Check.due("back to 0", desk.keep(0, true), true);
        Check.due("balance", desk.account(0, 0), 7);
        Check.due("back to 0 again", desk.keep(0, true), true);
        Check.due("keep(3)", desk.keep(3, false), false);
        Check.due("keep(-1)", desk.keep(-1, false), false);
        Check.due("back to 3", desk.keep(3, true), false);
        Check.due("back to -1", desk.keep(-1, true), false);
    }

    private static void keepsHoldAllThatActsChange() {
        PayoutDesk desk = Check.told(PEOPLE);
        desk.join(0, 2);
        desk.mark(1, true);
        desk.tell(0, 3);
        desk.tell(1, 40);
        desk.tell(2, 50);
        desk.balance(1, 60);
        desk.keep(1, false);
        desk.split(0);
        desk.join(1, 3);
        desk.join(0, 3);
        desk.mark(1, false);
        desk.tell(0, 9);
        desk.tell(1, 9);
        desk.tell(2, 9);
        desk.balance(1, 9);
        Check.due("back", desk.keep(1, true), true);
        long[] counts = {4, 0, 2, 0, 0, 3, 40, 50, 1, 1, 0, 0};
        for (int what = 0; what < counts.length; what++) {
            Check.due("count(" + what + ")", desk.count(what), counts[what]);
        }
        Check.due("balance", desk.account(1, 0), 60);
        Check.due("who(0)", desk.who(0), 5);
        Check.due("DEPOSITORS", desk.all(5), 3);
        Check.due("PAID", desk.all(2), 40 + 30);
        Check.due("split(2)", desk.split(2), 0);
    }

    private static void counts() {
        PayoutDesk desk = Check.told(FactsTest.BOOK);
        Check.feed(desk, "person");
        desk.join(0, 2);
        desk.mark(22, true);
        long[] want = {4, 3, 3, 3, 3, 7, 300, 100, 1, 1, 2, 20};
        for (int what = 0; what < want.length; what++) {
            Check.due("count(" + what + ")", desk.count(what), want[what]);
        }
        Check.due("count(-1)", desk.count(-1), -1);
        Check.due("count(12)", desk.count(12), -1);
    }
}
