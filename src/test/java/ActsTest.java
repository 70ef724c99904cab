/** Promises 21 to 28: acts, undo, keeps, count. */
final class ActsTest {
    private static final String PEOPLE =
            "person a 1;person b 1;person c;person d;account x balance 100 a 1;account y balance 50 c 1 d 1;";
    private static final int LEAST = Integer.MIN_VALUE;
    private static final int MOST = Integer.MAX_VALUE;

    private ActsTest() {
    }

    public static void main(String[] args) {
        whatTheBalanceWas();
        noSuchBalance();
        howManyDepositorsAJoinLeaves();
        noSuchJoin();
        theOtherOfTheJoin();
        noSuchSplit();
        whatWasToldAhead();
        noSuchSetting();
        aMarkIsLeftOut();
        nobodyHasTheMark();
        howManyCanBeUndone();
        undoneOneByOne();
        undoneRoundTheSixteen();
        undoOfASplitPutsTheJoinBack();
        noneCanBeUndone();
        keepsAreLaidAndGoneBackTo();
        keepsHoldAllThatActsChange();
        noSuchKeep();
        whatIsRefusedIsNoAct();
        counts();
        noSuchCount();
        Check.finish("ActsTest");
    }

    private static void whatTheBalanceWas() {
        Check.sentence("Promise 21", "The balance of an ACCOUNT: what it was;");
        PayoutDesk desk = Check.told(PEOPLE);
        Check.due("balance(1, 60)", desk.balance(1, 60), 50);
        Check.due("balance(1, 0)", desk.balance(1, 0), 60);
        Check.due("balance(1, 9999999)", desk.balance(1, 9999999), 0);
        Check.answers("SHARES", p -> desk.share(1, p), 0, 0, 4999999, 5000000);
        Check.answers("SHARES of the other", p -> desk.share(0, p), 100, 0, 0, 0);
        Check.due("balance(0, 1)", desk.balance(0, 1), 100);
        Check.due("balance(0, 1)", desk.balance(0, 1), 1);
        Check.due("ACTS", desk.count(10), 5);
    }

    private static void noSuchBalance() {
        Check.sentence("Promise 21", "NONE: others.");
        PayoutDesk desk = Check.told(PEOPLE);
        Check.always("balance(1, cents)", c -> desk.balance(1, c), -1, -1, 10000000, LEAST, MOST);
        Check.always("balance(account, 5)", a -> desk.balance(a, 5), -1, -1, 2, 10, LEAST, MOST);
        Check.answers("balance now", a -> desk.account(a, 0), 100, 50, -1);
        Check.due("ACTS", desk.count(10), 0);
    }

    private static void howManyDepositorsAJoinLeaves() {
        Check.sentence("Promise 22", "Two PERSONS are JOINED: how many DEPOSITORS there are;");
        PayoutDesk desk = Check.told(PEOPLE);
        Check.due("DEPOSITORS", desk.all(5), 3);
        Check.due("join(0, 1)", desk.join(0, 1), 3);
        Check.due("join(3, 2)", desk.join(3, 2), 2);
        Check.due("join(1, 3)", desk.join(1, 3), 1);
        Check.due("join(1, 3)", desk.join(1, 3), 1);
        Check.due("who(0)", desk.who(0), 15);
        Check.due("JOINS", desk.count(8), 4);
        PayoutDesk most = Check.told(Check.several("person p", 12, ";"));
        for (int p = 11; p > 0; p--) {
            Check.due("join(" + p + ", 0)", most.join(p, 0), p);
        }
    }

    private static void noSuchJoin() {
        Check.sentence("Promise 22", "NONE: others, one alone, 30 JOINS there are.");
        PayoutDesk desk = Check.told(PEOPLE);
        Check.always("join(0, other)", p -> desk.join(0, p), -1, 0, -1, 4, 12, LEAST, MOST);
        Check.always("join(person, 0)", p -> desk.join(p, 0), -1, 0, -1, 4, 12, LEAST, MOST);
        Check.always("join(one alone)", p -> desk.join(p, p), -1, 3, -1, 4, LEAST, MOST);
        Check.due("ACTS", desk.count(10), 0);
        for (int i = 1; i <= 30; i++) {
            Check.due("join " + i, desk.join(2, 3), 2);
            Check.due("JOINS", desk.count(8), i);
        }
        Check.due("join 31", desk.join(0, 2), -1);
        Check.due("JOINS", desk.count(8), 30);
        Check.due("DEPOSITORS", desk.all(5), 2);
        Check.due("split", desk.split(3), 2);
        Check.due("join again", desk.join(0, 2), 1);
        Check.due("join 31", desk.join(0, 2), -1);
        Check.due("undo", desk.undo(), 15);
        Check.due("join the 30th", desk.join(0, 3), 1);
        Check.due("join 31", desk.join(0, 3), -1);
    }

    private static void theOtherOfTheJoin() {
        Check.sentence("Promise 23", "SPLIT: the other one of that JOIN;");
        PayoutDesk desk = Check.told(PEOPLE);
        desk.join(0, 2);
        desk.join(3, 0);
        desk.join(2, 3);
        Check.due("split(0)", desk.split(0), 3);
        Check.due("split(0)", desk.split(0), 2);
        Check.due("DEPOSITORS", desk.all(5), 2);
        Check.due("split(3)", desk.split(3), 2);
        Check.due("DEPOSITORS", desk.all(5), 3);
        Check.due("ACTS", desk.count(10), 6);
        // Two that are JOINED twice have two JOINS.
        desk.join(0, 3);
        desk.join(3, 0);
        Check.due("split(0)", desk.split(0), 3);
        Check.due("still one", desk.all(5), 2);
        Check.due("split(3)", desk.split(3), 0);
        Check.due("no longer one", desk.all(5), 3);
        // The first of 30 and the last of 30.
        desk.join(0, 2);
        for (int i = 0; i < 28; i++) {
            desk.join(1, 2);
        }
        desk.join(2, 3);
        Check.due("JOINS", desk.count(8), 30);
        Check.due("split(0): the first", desk.split(0), 2);
        Check.due("split(3): the last", desk.split(3), 2);
        Check.due("JOINS", desk.count(8), 28);
    }

    private static void noSuchSplit() {
        Check.sentence("Promise 23", "NONE: others, there is no JOIN of this PERSON.");
        PayoutDesk desk = Check.told(PEOPLE);
        Check.always("split", desk::split, -1, 0, 1, 3, -1, 4, 12, LEAST, MOST);
        desk.join(0, 2);
        Check.due("split(1): a MARK is no JOIN", desk.split(1), -1);
        Check.due("split(3)", desk.split(3), -1);
        Check.due("JOINS", desk.count(8), 1);
        Check.due("split(0)", desk.split(0), 2);
        Check.due("split(0)", desk.split(0), -1);
        Check.due("split(2)", desk.split(2), -1);
        Check.due("ACTS", desk.count(10), 2);
    }

    private static void whatWasToldAhead() {
        Check.sentence("Promise 24", "What 0 closed, 1 cover, 2 raise is told: what it was;");
        PayoutDesk desk = Check.told(PEOPLE);
        int[][] rows = {{0, 5, 0}, {0, 999, 5}, {0, 0, 999}, {1, 9999999, 100000}, {1, 0, 9999999}, {1, 0, 0},
            {2, 9999999, 50000}, {2, 0, 9999999}, {2, 7, 0}};
        for (int[] row : rows) {
            Check.due("tell(" + row[0] + ", " + row[1] + ")", desk.tell(row[0], row[1]), row[2]);
            Check.due("count", desk.count(5 + row[0]), row[1]);
        }
        Check.due("PAID without cover", desk.all(2), 0);
        Check.due("ACTS", desk.count(10), 9);
    }

    private static void noSuchSetting() {
        Check.sentence("Promise 24", "NONE: others, no BOOK.");
        PayoutDesk desk = Check.told(PEOPLE);
        Check.always("tell(0, v)", v -> desk.tell(0, v), -1, -1, 1000, LEAST, MOST);
        Check.always("tell(1, v)", v -> desk.tell(1, v), -1, -1, 10000000, LEAST, MOST);
        Check.always("tell(2, v)", v -> desk.tell(2, v), -1, -1, 10000000, LEAST, MOST);
        Check.always("tell(what, 1)", w -> desk.tell(w, 1), -1, -1, 3, LEAST, MOST);
        Check.answers("count", desk::count, 4, 0, 2, 0, 0, 0, 100000, 50000, 0, 0, 0);
        PayoutDesk none = new PayoutDesk();
        Check.always("tell(what, 5) without a BOOK", w -> none.tell(w, 5), -1, 0, 1, 2);
        Check.tell(none, "person 5;");
        Check.always("tell(what, 5) after a FAULT", w -> none.tell(w, 5), -1, 0, 1, 2);
        Check.answers("count", none::count, 0, 0, 0, 0, 0, 0, 100000, 50000);
        Check.tell(none, "cover 6;");
        Check.due("tell(1, 5) of a BOOK of one LINE", none.tell(1, 5), 6);
    }

    private static void aMarkIsLeftOut() {
        Check.sentence("Promise 25", "A MARK is LEFT OUT (or counts): true;");
        PayoutDesk desk = Check.told("person a 1 2;person b 1 2;person c 2 9;");
        Check.due("mark(1, true)", desk.mark(1, true), true);
        Check.due("DEPOSITORS", desk.all(5), 1);
        Check.due("mark(2, true)", desk.mark(2, true), true);
        Check.due("DEPOSITORS", desk.all(5), 3);
        Check.due("mark(9, true): one PERSON's alone", desk.mark(9, true), true);
        Check.due("mark(9, true): LEFT OUT already", desk.mark(9, true), true);
        Check.due("LEFT OUT", desk.count(9), 3);
        Check.due("mark(1, false)", desk.mark(1, false), true);
        Check.due("mark(1, false): counts already", desk.mark(1, false), true);
        Check.due("LEFT OUT", desk.count(9), 2);
        Check.due("DEPOSITORS", desk.all(5), 2);
        Check.due("ACTS", desk.count(10), 6);
        // As many MARKS as there may be: more than 32.
        PayoutDesk most = Check.told("person a 1 2 3;person b 4 5 6;person c 7 8 9;person d 10 11 12;person e 13 14 15;"
                + "person f 16 17 18;person g 19 20 21;person h 22 23 24;person i 25 26 27;person j 28 29 30;"
                + "person k 31 32 33;person l 34 35 36;");
        for (int mark = 1; mark <= 36; mark++) {
            Check.due("mark(" + mark + ", true)", most.mark(mark, true), true);
            Check.due("LEFT OUT", most.count(9), mark);
        }
        Check.due("mark(36, false)", most.mark(36, false), true);
        Check.due("LEFT OUT", most.count(9), 35);
        Check.due("mark(4, false)", most.mark(4, false), true);
        Check.due("LEFT OUT", most.count(9), 34);
    }

    private static void nobodyHasTheMark() {
        Check.sentence("Promise 25", "false: others (nobody has it).");
        PayoutDesk desk = Check.told("person a 1 2;person b 9;");
        for (int mark : new int[] {0, 3, 8, 10, -1, 9999, 10000, LEAST, MOST}) {
            Check.due("mark(" + mark + ", true)", desk.mark(mark, true), false);
            Check.due("mark(" + mark + ", false)", desk.mark(mark, false), false);
        }
        Check.due("ACTS", desk.count(10), 0);
        Check.due("LEFT OUT", desk.count(9), 0);
        Check.tell(desk, "person a 5;");
        Check.due("mark(1, true) of a BOOK ahead", desk.mark(1, true), false);
        Check.due("mark(5, true)", desk.mark(5, true), true);
    }

    private static void howManyCanBeUndone() {
        Check.sentence("Promise 26", "The latest ACT is UNDONE: how many can be still;");
        PayoutDesk desk = Check.told(PEOPLE);
        desk.balance(0, 1);
        desk.join(0, 2);
        desk.split(2);
        desk.tell(0, 9);
        desk.tell(1, 8);
        desk.tell(2, 7);
        desk.mark(1, true);
        desk.mark(1, false);
        Check.due("undo mark", desk.undo(), 7);
        Check.due("LEFT OUT", desk.count(9), 1);
        Check.due("DEPOSITORS", desk.all(5), 4);
        Check.due("undo mark", desk.undo(), 6);
        Check.due("LEFT OUT", desk.count(9), 0);
        Check.due("DEPOSITORS", desk.all(5), 3);
        Check.due("undo raise", desk.undo(), 5);
        Check.due("raise", desk.count(7), 50000);
        Check.due("undo cover", desk.undo(), 4);
        Check.due("cover", desk.count(6), 100000);
        Check.due("undo closed", desk.undo(), 3);
        Check.due("closed", desk.count(5), 0);
        Check.due("undo split", desk.undo(), 2);
        Check.due("DEPOSITORS", desk.all(5), 2);
        Check.due("undo join", desk.undo(), 1);
        Check.due("DEPOSITORS", desk.all(5), 3);
        Check.due("undo balance", desk.undo(), 0);
        Check.due("balance", desk.account(0, 0), 100);
        Check.due("SHARE", desk.share(0, 0), 100);
    }

    private static void undoneOneByOne() {
        PayoutDesk desk = Check.told(PEOPLE);
        for (int i = 1; i <= 40; i++) {
            desk.balance(0, 1000 + i);
            Check.due("ACTS", desk.count(10), Math.min(i, 16));
        }
        for (int i = 15; i >= 0; i--) {
            Check.due("undo", desk.undo(), i);
            Check.due("balance", desk.account(0, 0), 1024 + i);
        }
        Check.due("undo", desk.undo(), -1);
        Check.due("balance", desk.account(0, 0), 1024);
    }

    private static void undoneRoundTheSixteen() {
        PayoutDesk desk = Check.told(PEOPLE);
        for (int i = 1; i <= 40; i++) {
            desk.balance(0, 1000 + i);
        }
        for (int i = 15; i >= 5; i--) {
            Check.due("undo", desk.undo(), i);
        }
        for (int i = 1; i <= 3; i++) {
            desk.balance(0, i);
        }
        int[] balances = {2, 1, 1029, 1028, 1027, 1026, 1025, 1024};
        for (int i = 0; i < balances.length; i++) {
            Check.due("undo", desk.undo(), 7 - i);
            Check.due("balance", desk.account(0, 0), balances[i]);
        }
        Check.due("undo", desk.undo(), -1);
    }

    private static void undoOfASplitPutsTheJoinBack() {
        PayoutDesk desk = Check.told(PEOPLE);
        desk.join(0, 2);
        desk.join(0, 3);
        desk.join(2, 3);
        Check.due("split(0)", desk.split(0), 3);
        Check.due("undo", desk.undo(), 3);
        Check.due("split(3): the later JOIN", desk.split(3), 2);
        Check.due("split(3)", desk.split(3), 0);
        Check.due("split(3)", desk.split(3), -1);
        Check.due("split(2)", desk.split(2), 0);
    }

    private static void noneCanBeUndone() {
        Check.sentence("Promise 26", "NONE: none can be.");
        Check.due("undo without a BOOK", new PayoutDesk().undo(), -1);
        PayoutDesk desk = Check.told(PEOPLE);
        Check.due("undo", desk.undo(), -1);
        desk.balance(0, 7);
        Check.due("undo", desk.undo(), 0);
        Check.due("undo", desk.undo(), -1);
        Check.due("ACTS", desk.count(10), 0);
        Check.due("balance", desk.account(0, 0), 100);
    }

    private static void keepsAreLaidAndGoneBackTo() {
        Check.sentence("Promise 27", "A KEEP is laid (back: gone back to): true;");
        PayoutDesk desk = Check.told(PEOPLE);
        Check.due("keep(0)", desk.keep(0, false), true);
        desk.balance(0, 5);
        Check.due("keep(2)", desk.keep(2, false), true);
        desk.balance(0, 6);
        Check.due("back to 0", desk.keep(0, true), true);
        Check.due("balance", desk.account(0, 0), 100);
        Check.due("SHARE", desk.share(0, 0), 100);
        Check.due("back to 2", desk.keep(2, true), true);
        Check.due("balance", desk.account(0, 0), 5);
        desk.balance(0, 7);
        Check.due("keep(0) anew", desk.keep(0, false), true);
        desk.balance(0, 8);
        Check.due("undo", desk.undo(), 1);
        Check.due("undo", desk.undo(), 0);
        Check.due("balance", desk.account(0, 0), 5);
        Check.due("back to 0: no UNDO takes it away", desk.keep(0, true), true);
        Check.due("balance", desk.account(0, 0), 7);
        Check.due("back to 0 once more", desk.keep(0, true), true);
        Check.due("balance", desk.account(0, 0), 7);
    }

    private static void keepsHoldAllThatActsChange() {
        PayoutDesk desk = Check.told(PEOPLE);
        desk.join(0, 2);
        desk.mark(1, true);
        desk.tell(0, 3);
        desk.tell(1, 40);
        desk.tell(2, 50);
        desk.balance(1, 60);
        desk.keep(1, false);
        desk.split(0);
        desk.join(1, 3);
        desk.join(0, 3);
        desk.mark(1, false);
        desk.tell(0, 9);
        desk.tell(1, 9);
        desk.tell(2, 9);
        desk.balance(1, 9);
        Check.due("back", desk.keep(1, true), true);
        Check.answers("count", desk::count, 4, 0, 2, 0, 0, 3, 40, 50, 1, 1, 0, 0);
        Check.due("balance", desk.account(1, 0), 60);
        Check.due("who(0)", desk.who(0), 5);
        Check.due("DEPOSITORS", desk.all(5), 3);
        Check.due("PAID", desk.all(2), 40 + 30);
        Check.due("split(2)", desk.split(2), 0);
    }

    private static void noSuchKeep() {
        Check.sentence("Promise 27", "false: none such, no BOOK, nothing is in it (back).");
        PayoutDesk none = new PayoutDesk();
        PayoutDesk desk = Check.told(PEOPLE);
        for (int k = -1; k <= 3; k++) {
            Check.due("keep(" + k + ") without a BOOK", none.keep(k, false), false);
            Check.due("back to " + k + " without a BOOK", none.keep(k, true), false);
            Check.due("back to " + k + ", nothing in it", desk.keep(k, true), false);
        }
        Check.tell(none, "person a;");
        Check.due("what was laid without a BOOK is not there", none.keep(0, true), false);
        desk.balance(0, 7);
        for (int k : new int[] {-1, 3, LEAST, MOST}) {
            Check.due("keep(" + k + ")", desk.keep(k, false), false);
            Check.due("back to " + k, desk.keep(k, true), false);
        }
        Check.due("keep(1)", desk.keep(1, false), true);
        Check.due("back to 0", desk.keep(0, true), false);
        Check.due("back to 2", desk.keep(2, true), false);
        Check.due("gone back to nothing: all can be UNDONE", desk.count(10), 1);
        Check.due("back to 1", desk.keep(1, true), true);
    }

    private static void whatIsRefusedIsNoAct() {
        PayoutDesk desk = Check.told(PEOPLE);
        desk.balance(9, 1);
        desk.join(0, 0);
        desk.split(0);
        desk.tell(0, 1000);
        desk.mark(7, true);
        desk.undo();
        desk.keep(5, false);
        Check.due("ACTS", desk.count(10), 0);
    }

    private static void counts() {
        Check.sentence("Promise 28", "What 0: PERSONS, 1: TRUSTS, 2: ACCOUNTS, 3: highs, 4: loans, 5: closed, 6: cover, 7: raise, "
                + "8: JOINS, 9: MARKS LEFT OUT, 10: ACTS that can be UNDONE, 11: bytes on THE TAPE.");
        PayoutDesk desk = Check.told("person a 1;person b 2 22;trust ta;trust tb;trust tc;account x balance 5 a 1;"
                + "high x 5 from 1 to 2;high x 5 from 1 to 2;high x 5 from 1 to 2;high x 5 from 1 to 2;"
                + "loan a 5 due 1;loan a 5 due 1;loan a 5 due 1;loan a 5 due 1;loan a 5 due 1;closed 6;cover 7;raise 8;");
        Check.feed(desk, "person");
        desk.join(0, 1);
        desk.join(0, 1);
        desk.join(0, 1);
        desk.mark(22, true);
        desk.mark(2, true);
        Check.answers("count", desk::count, 2, 3, 1, 4, 5, 6, 7, 8, 3, 2, 5, 20);
    }

    private static void noSuchCount() {
        Check.sentence("Promise 28", "NONE for another what.");
        PayoutDesk desk = Check.told(PEOPLE);
        Check.always("count", desk::count, -1, -1, 12, 13, LEAST, MOST);
        Check.always("count without a BOOK", new PayoutDesk()::count, -1, -1, 12, LEAST, MOST);
    }
}
