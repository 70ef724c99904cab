/** Promises 14 to 19: what else would be; none of it changes what is. */
final class WhatIfTest {
    private static final int LEAST = Integer.MIN_VALUE;
    private static final int MOST = Integer.MAX_VALUE;

    private WhatIfTest() {
    }

    public static void main(String[] args) {
        onDay();
        noSuchDay();
        bestDay();
        ofSeveralTheFirst();
        noSuchDays();
        coverFor();
        upwards();
        noSuchHundredths();
        markless();
        leftOutAlready();
        nobodyHasTheMark();
        joining();
        joiningWithThirtyJoins();
        noTwoPersons();
        apart();
        notOne();
        nothingChanges();
        Check.finish("WhatIfTest");
    }

    private static void onDay() {
        Check.sentence("Promise 14", "PAID of all together, were it closed on a DAY;");
        PayoutDesk desk = Check.told(FactsTest.BOOK);
        int[][] want = {{0, 600}, {2, 600}, {4, 600}, {5, 800}, {6, 800}, {7, 800}, {8, 400}, {9, 400},
            {10, 300}, {998, 300}, {999, 300}};
        for (int[] row : want) {
            Check.due("onDay(" + row[0] + ")", desk.onDay(row[0]), row[1]);
        }
        // What is told since counts: a balance, a JOIN, cover.
        desk.balance(0, 0);
        Check.due("onDay(7) with less", desk.onDay(7), 27);
        desk.undo();
        desk.join(0, 3);
        Check.due("onDay(7) of two JOINED", desk.onDay(7), 400);
        desk.tell(1, 100);
        Check.due("onDay(7) with less cover", desk.onDay(7), 200);
        Check.due("onDay(10) with less cover", desk.onDay(10), 100);
    }

    private static void noSuchDay() {
        Check.sentence("Promise 14", "NONE: others.");
        PayoutDesk desk = Check.told(FactsTest.BOOK);
        Check.always("onDay", desk::onDay, -1, -1, 1000, LEAST, MOST);
        PayoutDesk none = new PayoutDesk();
        Check.always("onDay without a BOOK", none::onDay, -1, -1, 1000);
        Check.always("onDay without a BOOK", none::onDay, 0, 0, 999);
    }

    private static void bestDays(PayoutDesk desk, int[][] want) {
        for (int[] row : want) {
            Check.due("bestDay(" + row[0] + ", " + row[1] + ", " + row[2] + ")",
                    desk.bestDay(row[0], row[1], row[2]), row[3]);
        }
    }

    private static void bestDay() {
        Check.sentence("Promise 15", "The DAY of some (from .. to, 0 to 999) on which PAID of all together would be least "
                + "(what 0), greatest (1),");
        bestDays(Check.told(FactsTest.BOOK), new int[][] {{0, 999, 1, 5}, {0, 999, 0, 10}, {0, 9, 0, 8}, {6, 999, 1, 6},
            {10, 10, 1, 10}, {9, 10, 0, 10}, {9, 9, 0, 9}, {4, 5, 1, 5}, {4, 4, 1, 4}, {8, 999, 0, 10}, {3, 5, 1, 5},
            {5, 8, 0, 8}, {5, 7, 0, 5}, {0, 0, 0, 0}, {999, 999, 1, 999}});
        PayoutDesk last = Check.told("person a;account x balance 9 a 1;high x 5 from 3 to 999;loan a 9 due 999;cover 1;");
        bestDays(last, new int[][] {{0, 999, 0, 999}, {0, 998, 0, 0}, {0, 999, 1, 3}, {0, 2, 1, 0}, {998, 999, 0, 999},
            {998, 999, 1, 998}});
        PayoutDesk first = Check.told("person a;account x balance 9 a 1;high x 5 from 0 to 0;loan a 9 due 2;cover 1;");
        bestDays(first, new int[][] {{0, 999, 1, 0}, {1, 999, 1, 1}, {0, 999, 0, 2}, {0, 1, 0, 1}});
    }

    private static void ofSeveralTheFirst() {
        Check.sentence("Promise 15", "of several the first;");
        PayoutDesk same = Check.told("person a;account x balance 9 a 1;cover 1;");
        bestDays(same, new int[][] {{0, 999, 0, 0}, {0, 999, 1, 0}, {7, 999, 0, 7}, {7, 7, 1, 7}});
        // 1 on DAYS 0 to 1, 6 on 2 to 3, 1 on 4 to 5, 6 on 6 to 7, 1 behind it; the highs are not told by their DAYS.
        PayoutDesk twice = Check.told("person a;account x balance 9 a 1;high x 5 from 6 to 7;high x 5 from 2 to 3;cover 1;");
        bestDays(twice, new int[][] {{0, 999, 1, 2}, {0, 999, 0, 0}, {2, 999, 0, 4}, {3, 7, 1, 3}, {4, 7, 1, 6}, {4, 7, 0, 4},
            {6, 999, 0, 8}, {8, 999, 1, 8}});
    }

    private static void noSuchDays() {
        Check.sentence("Promise 15", "NONE: others, to less than from.");
        PayoutDesk desk = Check.told(FactsTest.BOOK);
        bestDays(desk, new int[][] {{3, 3, 0, 3}, {3, 2, 0, -1}, {999, 0, 1, -1}, {-1, 5, 0, -1}, {-1, -1, 0, -1},
            {0, 1000, 1, -1}, {1000, 1000, 1, -1}, {0, 5, 2, -1}, {0, 5, -1, -1}, {0, 5, LEAST, -1}, {0, 5, MOST, -1},
            {LEAST, MOST, 0, -1}, {MOST, LEAST, 0, -1}, {5, LEAST, 0, -1}, {MOST, 5, 1, -1}});
        bestDays(new PayoutDesk(), new int[][] {{3, 2, 0, -1}, {3, 9, 2, -1}, {3, 9, 0, 3}, {3, 9, 1, 3}});
    }

    private static void coverFor() {
        Check.sentence("Promise 16", "The least cover with which PAID of all together is as much as so much of a hundred (1 to "
                + "100) of NET of all together,");
        PayoutDesk desk = Check.told(FactsTest.BOOK);
        int[][] want = {{100, 426}, {99, 416}, {95, 386}, {50, 156}, {20, 3}, {19, 0}, {1, 0}};
        for (int[] row : want) {
            Check.due("coverFor(" + row[0] + ")", desk.coverFor(row[0]), row[1]);
        }
        // NET 1,000: with this cover it is as much, with a cent less it is not.
        PayoutDesk even = Check.told("person a;person b;account x balance 900 a 1;account y balance 100 b 1;");
        int[][] covers = {{1, 5}, {2, 10}, {20, 100}, {21, 110}, {100, 900}};
        for (int[] row : covers) {
            Check.due("coverFor(" + row[0] + ")", even.coverFor(row[0]), row[1]);
            even.tell(1, row[1]);
            Check.due("PAID", even.all(2) >= row[0] * 10, true);
            even.tell(1, row[1] - 1);
            Check.due("PAID of a cent less", even.all(2) < row[0] * 10, true);
        }
        // No amount of a BOOK could be as much: no bound is told for this one.
        PayoutDesk much = Check.told("person a;" + Check.several("account x", 10, " balance 9999999 a 1;"));
        Check.due("coverFor(100)", much.coverFor(100), 99999990);
        Check.due("coverFor(1)", much.coverFor(1), 1000000);
    }

    private static void upwards() {
        Check.sentence("Promise 16", "upwards;");
        PayoutDesk desk = Check.told("person a;account x balance 101 a 1;");
        int[][] want = {{1, 2}, {2, 3}, {50, 51}, {99, 100}, {100, 101}};
        for (int[] row : want) {
            Check.due("coverFor(" + row[0] + ") of 101", desk.coverFor(row[0]), row[1]);
        }
        desk.balance(0, 100);
        Check.due("coverFor(1) of 100", desk.coverFor(1), 1);
        desk.balance(0, 99);
        Check.due("coverFor(1) of 99", desk.coverFor(1), 1);
        desk.balance(0, 1);
        Check.due("coverFor(1) of 1", desk.coverFor(1), 1);
        desk.balance(0, 0);
        Check.due("coverFor(100) of 0", desk.coverFor(100), 0);
    }

    private static void noSuchHundredths() {
        Check.sentence("Promise 16", "NONE: others.");
        PayoutDesk desk = Check.told(FactsTest.BOOK);
        Check.always("coverFor", h -> desk.coverFor(h), -1, 0, 101, -1, LEAST, MOST);
        PayoutDesk none = new PayoutDesk();
        Check.always("coverFor without a BOOK", none::coverFor, -1, 0, 101);
        Check.always("coverFor without a BOOK", none::coverFor, 0, 1, 100);
    }

    private static void markless() {
        Check.sentence("Promise 17", "How much more (less: below 0) would be PAID to all together, were a MARK LEFT OUT");
        PayoutDesk desk = Check.told(FactsTest.BOOK);
        Check.due("markless(22)", desk.markless(22), 90);
        Check.due("markless(11)", desk.markless(11), 0);
        Check.due("markless(9999)", desk.markless(9999), 0);
        desk.join(0, 1);
        Check.due("markless(22) of two JOINED", desk.markless(22), 0);
        // What b owes is set off from what a has no longer; what is high of b's raises a no longer.
        PayoutDesk less = Check.told("person a 5;person b 5;account x balance 500 a 1;account y balance 100 b 1;"
                + "high y 100 from 0 to 9;loan b 100 due 0;cover 300;");
        Check.due("markless(5)", less.markless(5), -100);
        PayoutDesk both = Check.told("person a 5 6;person b 6 5;account x balance 9 a 1;account y balance 9 b 1;cover 9;");
        Check.due("markless(5): there is 6", both.markless(5), 0);
        both.mark(6, true);
        Check.due("markless(5): there is no 6", both.markless(5), 9);
    }

    private static void leftOutAlready() {
        Check.sentence("Promise 17", "(it is: were it to count again);");
        PayoutDesk desk = Check.told(FactsTest.BOOK);
        desk.mark(22, true);
        Check.due("markless(22) of one LEFT OUT", desk.markless(22), -90);
        desk.mark(11, true);
        Check.due("markless(11) of one LEFT OUT", desk.markless(11), 0);
        desk.mark(22, false);
        Check.due("markless(22) of one that counts", desk.markless(22), 90);
    }

    private static void nobodyHasTheMark() {
        Check.sentence("Promise 17", "NoSuchElementException: nobody has it.");
        PayoutDesk desk = Check.told(FactsTest.BOOK);
        Check.due("markless(44)", desk.markless(44), 0);
        for (int mark : new int[] {12, 43, 45, 0, -1, -22, 1, 9998, 10000, LEAST, MOST}) {
            Check.throwsNone("markless(" + mark + ")", () -> desk.markless(mark));
        }
        Check.tell(desk, "person a 1;");
        Check.throwsNone("markless(22) of a BOOK ahead", () -> desk.markless(22));
        PayoutDesk none = new PayoutDesk();
        Check.throwsNone("markless(0) without a BOOK", () -> none.markless(0));
    }

    private static void joining() {
        Check.sentence("Promise 18", "How much more (less: below 0) would be PAID to all together, were two PERSONS JOINED;");
        PayoutDesk desk = Check.told(FactsTest.BOOK);
        Check.due("joining(0, 3)", desk.joining(0, 3), -400);
        Check.due("joining(3, 1)", desk.joining(3, 1), -400);
        Check.due("joining(2, 1)", desk.joining(2, 1), 0);
        Check.due("joining(0, 1)", desk.joining(0, 1), 0);
        PayoutDesk more = Check.told("person a;person b;account x balance 500 a 1;account y balance 100 b 1;"
                + "high y 100 from 0 to 9;loan b 100 due 0;cover 300;");
        Check.due("PAID", more.all(2), 300);
        Check.due("joining(0, 1)", more.joining(0, 1), 100);
        more.join(1, 0);
        Check.due("PAID", more.all(2), 400);
        Check.due("joining(0, 1) once more", more.joining(0, 1), 0);
    }

    /** It is no JOIN: there need be no room for one. */
    private static void joiningWithThirtyJoins() {
        PayoutDesk desk = Check.told(FactsTest.BOOK);
        for (int i = 0; i < 30; i++) {
            desk.join(0, 1);
        }
        Check.due("joining(0, 3) of 30 JOINS", desk.joining(0, 3), -400);
        Check.due("JOINS", desk.count(8), 30);
        Check.due("join", desk.join(0, 3), -1);
    }

    private static void noTwoPersons() {
        Check.sentence("Promise 18", "NoSuchElementException: none such, one alone.");
        PayoutDesk desk = Check.told(FactsTest.BOOK);
        Check.due("joining(0, 3)", desk.joining(0, 3), -400);
        for (int none : new int[] {-1, 4, 12, LEAST, MOST}) {
            Check.throwsNone("joining(0, " + none + ")", () -> desk.joining(0, none));
            Check.throwsNone("joining(" + none + ", 3)", () -> desk.joining(none, 3));
            Check.throwsNone("joining(" + none + ", the same)", () -> desk.joining(none, none));
        }
        for (int p = 0; p < 4; p++) {
            final int one = p;
            Check.throwsNone("joining(" + one + ", the same)", () -> desk.joining(one, one));
        }
    }

    private static void aparts(PayoutDesk desk, int[][] want) {
        for (int[] row : want) {
            Check.due("apart(" + row[0] + ", " + row[1] + ")", desk.apart(row[0], row[1]), row[2]);
            Check.due("apart(" + row[1] + ", " + row[0] + ")", desk.apart(row[1], row[0]), row[2]);
        }
    }

    private static void apart() {
        Check.sentence("Promise 19", "How two PERSONS are one: the fewest MARKS and JOINS from one to the other (0: the same);");
        PayoutDesk desk = Check.told("person a 1;person b 1 2;person c 2 3;person d 3;person e;person f 1 4;person g 4;");
        aparts(desk, new int[][] {{0, 0, 0}, {4, 4, 0}, {0, 1, 1}, {0, 2, 2}, {0, 3, 3}, {1, 5, 1}, {6, 3, 4}});
        desk.join(4, 3);
        aparts(desk, new int[][] {{0, 4, 4}, {3, 4, 1}});
        desk.join(6, 4);
        aparts(desk, new int[][] {{6, 3, 2}, {0, 4, 3}});
        desk.mark(1, true);
        aparts(desk, new int[][] {{0, 1, -1}, {5, 1, 5}, {0, 0, 0}});
        PayoutDesk chain = Check.told("person a 1;person b 1 2;person c 2 3;person d 3 4;person e 4 5;person f 5 6;"
                + "person g 6 7;person h 7 8;person i 8 9;person j 9 10;person k 10 11;person l 11;");
        aparts(chain, new int[][] {{0, 11, 11}, {0, 10, 10}, {1, 11, 10}, {11, 11, 0}});
        Check.due("who(0)", chain.who(0), 4095);
        // Two MARKS alike, or a MARK and a JOIN, are no fewer than one.
        PayoutDesk alike = Check.told("person a 1 2;person b 2 1;");
        alike.join(0, 1);
        aparts(alike, new int[][] {{0, 1, 1}});
        PayoutDesk joined = Check.told(Check.several("person p", 12, ";"));
        for (int p = 0; p < 11; p++) {
            joined.join(p + 1, p);
        }
        aparts(joined, new int[][] {{0, 11, 11}, {3, 7, 4}});
    }

    private static void notOne() {
        Check.sentence("Promise 19", "NONE: they are not, none such.");
        PayoutDesk desk = Check.told("person a 1;person b 1;person c 2;person d 12;");
        aparts(desk, new int[][] {{0, 1, 1}, {0, 2, -1}, {2, 3, -1}, {0, 3, -1}, {3, 3, 0}, {0, 4, -1}, {4, 4, -1},
            {0, -1, -1}, {-1, -1, -1}, {3, 12, -1}, {LEAST, 0, -1}, {MOST, 0, -1}, {MOST, MOST, -1}, {32, 0, -1}});
    }

    private static void nothingChanges() {
        PayoutDesk desk = Check.told(FactsTest.BOOK);
        desk.balance(0, 1000);
        desk.onDay(2);
        desk.bestDay(0, 999, 1);
        desk.coverFor(50);
        desk.markless(22);
        desk.joining(0, 3);
        Check.answers("count", desk::count, 4, 3, 3, 3, 3, 7, 300, 100, 0, 0, 1, 0);
        Check.answers("all", desk::all, 1103, 80, 800, 223, 7, 3, 2);
        Check.answers("view(0)", w -> desk.view(0, w), 576, 50, 50, 526, 276, 400, 400, 126, 1);
    }
}
