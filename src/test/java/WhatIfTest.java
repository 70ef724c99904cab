/** Promises 14 to 19: what else would be; none of it changes what is. */
final class WhatIfTest {
    private WhatIfTest() {
    }

    public static void main(String[] args) {
        onDay();
        bestDay();
        coverFor();
        markless();
        joining();
        joiningCanGain();
        apart();
        nothingChanges();
        Check.finish("WhatIfTest");
    }

    private static void onDay() {
        PayoutDesk desk = Check.told(FactsTest.BOOK);
        int[][] want = {{0, 600}, {2, 600}, {4, 600}, {5, 800}, {6, 800}, {7, 800}, {8, 400}, {9, 400},
            {10, 300}, {999, 300}, {-1, -1}, {1000, -1}, {Integer.MIN_VALUE, -1}, {Integer.MAX_VALUE, -1}};
        for (int[] row : want) {
            Check.due("onDay(" + row[0] + ")", desk.onDay(row[0]), row[1]);
        }
    }

    private static void bestDay() {
        PayoutDesk desk = Check.told(FactsTest.BOOK);
        int[][] want = {{0, 999, 1, 5}, {0, 999, 0, 10}, {0, 9, 0, 8}, {6, 999, 1, 6}, {0, 4, 0, 0}, {0, 4, 1, 0},
            {10, 10, 1, 10}, {11, 999, 0, 11}, {9, 999, 1, 9}, {8, 999, 0, 10}, {3, 5, 1, 5}, {5, 8, 0, 8},
            {3, 2, 0, -1}, {-1, 5, 0, -1}, {0, 1000, 1, -1}, {0, 5, 2, -1}, {0, 5, -1, -1},
            {Integer.MIN_VALUE, Integer.MAX_VALUE, 0, -1}};
        for (int[] row : want) {
            Check.due("bestDay(" + row[0] + ", " + row[1] + ", " + row[2] + ")",
                    desk.bestDay(row[0], row[1], row[2]), row[3]);
        }
        PayoutDesk last = Check.told("person a;account x balance 9 a 1;high x 5 from 3 to 999;loan a 9 due 999;cover 1;");
        Check.due("bestDay(0, 999, 0)", last.bestDay(0, 999, 0), 999);
        Check.due("bestDay(0, 999, 1)", last.bestDay(0, 999, 1), 3);
    }

    private static void coverFor() {
        PayoutDesk desk = Check.told(FactsTest.BOOK);
        int[][] want = {{100, 426}, {99, 416}, {95, 386}, {50, 156}, {20, 3}, {19, 0}, {1, 0},
            {0, -1}, {101, -1}, {-5, -1}, {Integer.MAX_VALUE, -1}};
        for (int[] row : want) {
            Check.due("coverFor(" + row[0] + ")", desk.coverFor(row[0]), row[1]);
        }
        // No amount of a BOOK could be as much: no bound is told for this one.
        PayoutDesk much = Check.told("person a;account x balance 9999999 a 1;account y balance 9999999 a 1;");
        Check.due("coverFor(100)", much.coverFor(100), 19999998);
        Check.due("coverFor(1)", much.coverFor(1), 200000);
    }

    private static void markless() {
        PayoutDesk desk = Check.told(FactsTest.BOOK);
        Check.due("markless(22)", desk.markless(22), 90);
        Check.due("markless(11)", desk.markless(11), 0);
        Check.due("markless(9999)", desk.markless(9999), 0);
        Check.throwsNone("markless(12)", () -> desk.markless(12));
        Check.throwsNone("markless(0)", () -> desk.markless(0));
        Check.throwsNone("markless(-22)", () -> desk.markless(-22));
        desk.mark(22, true);
        Check.due("markless(22) of one LEFT OUT", desk.markless(22), -90);
        desk.mark(11, true);
        Check.due("markless(11) of one LEFT OUT", desk.markless(11), 0);
        desk.join(0, 1);
        Check.due("markless(22) of two JOINED", desk.markless(22), 0);
        PayoutDesk other = Check.told("person a;");
        Check.throwsNone("markless(22)", () -> other.markless(22));
    }

    private static void joining() {
        PayoutDesk desk = Check.told(FactsTest.BOOK);
        Check.due("joining(0, 3)", desk.joining(0, 3), -400);
        Check.due("joining(3, 1)", desk.joining(3, 1), -400);
        Check.due("joining(2, 1)", desk.joining(2, 1), 0);
        Check.due("joining(0, 1)", desk.joining(0, 1), 0);
        Check.throwsNone("joining(0, 0)", () -> desk.joining(0, 0));
        Check.throwsNone("joining(0, 4)", () -> desk.joining(0, 4));
        Check.throwsNone("joining(4, 0)", () -> desk.joining(4, 0));
        Check.throwsNone("joining(-1, 0)", () -> desk.joining(-1, 0));
        for (int i = 0; i < 30; i++) {
            desk.join(0, 1);
        }
        Check.due("joining(0, 3) of 30 JOINS", desk.joining(0, 3), -400);
        Check.due("JOINS", desk.count(8), 30);
    }

    private static void joiningCanGain() {
        PayoutDesk desk = Check.told("person a;person b;account x balance 500 a 1;account y balance 100 b 1;"
                + "high y 100 from 0 to 9;loan b 100 due 0;cover 300;");
        Check.due("PAID", desk.all(2), 300);
        Check.due("joining(0, 1)", desk.joining(0, 1), 100);
        desk.join(1, 0);
        Check.due("PAID", desk.all(2), 400);
    }

    private static void apart() {
        PayoutDesk desk = Check.told("person a 1;person b 1 2;person c 2 3;person d 3;person e;person f 1 4;person g 4;");
        int[][] want = {{0, 0, 0}, {0, 1, 1}, {0, 2, 2}, {0, 3, 3}, {3, 0, 3}, {0, 4, -1}, {4, 4, 0}, {1, 5, 1},
            {6, 3, 4}, {7, 7, -1}, {0, 7, -1}, {-1, 0, -1}, {-1, -1, -1}, {Integer.MIN_VALUE, 0, -1}};
        for (int[] row : want) {
            Check.due("apart(" + row[0] + ", " + row[1] + ")", desk.apart(row[0], row[1]), row[2]);
        }
        desk.join(4, 3);
        Check.due("apart(0, 4)", desk.apart(0, 4), 4);
        desk.join(6, 4);
        Check.due("apart(6, 3)", desk.apart(6, 3), 2);
        Check.due("apart(0, 4)", desk.apart(0, 4), 3);
        desk.mark(1, true);
        Check.due("apart(0, 1)", desk.apart(0, 1), -1);
        Check.due("apart(5, 1)", desk.apart(5, 1), 5);
        PayoutDesk chain = Check.told("person a 1;person b 1 2;person c 2 3;person d 3 4;person e 4 5;person f 5 6;"
                + "person g 6 7;person h 7 8;person i 8 9;person j 9 10;person k 10 11;person l 11;");
        Check.due("apart(0, 11)", chain.apart(0, 11), 11);
        Check.due("apart(11, 0)", chain.apart(11, 0), 11);
        Check.due("who(0)", chain.who(0), 4095);
    }

    private static void nothingChanges() {
        PayoutDesk desk = Check.told(FactsTest.BOOK);
        desk.balance(0, 1000);
        desk.onDay(2);
        desk.bestDay(0, 999, 1);
        desk.coverFor(50);
        desk.markless(22);
        desk.joining(0, 3);
        Check.due("closed", desk.count(5), 7);
        Check.due("cover", desk.count(6), 300);
        Check.due("JOINS", desk.count(8), 0);
        Check.due("LEFT OUT", desk.count(9), 0);
        Check.due("ACTS", desk.count(10), 1);
        Check.due("PAID", desk.all(2), 800);
        Check.due("DEPOSITORS", desk.all(5), 3);
    }
}
