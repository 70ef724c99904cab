/** The FAULTS: their kinds, their places, and which of several is told. */
final class FaultsTest {
    private static final String SIX = Check.several("person p", 6, ";");
    private static final String FIVE_PARTS = "pa 1 pb 1 pc 1 pd 1 pe 1";
    private static final String AHEAD = "person a;account x balance 7 a 1;";

    private FaultsTest() {
    }

    public static void main(String[] args) {
        theLeastPlace();
        ofOnePlaceTheFirstOfTheList();
        noTokenOrNoBook();
        theEnd();
        toldTwice();
        notToldAhead();
        outOfItsBounds();
        oneTooMany();
        Check.finish("FaultsTest");
    }

    /** Each FAULT once ahead of another kind, and once behind it. */
    private static void theLeastPlace() {
        Check.sentence("Terms 1", "FAULTS, the one whose place is least;");
        String[] faults = {"person b ^!;", "person ^a;", "loan ^q 1 due 1;", "closed ^1000;", "person b 1 2 3 ^4;"};
        for (int first = 0; first < faults.length; first++) {
            for (String second : faults) {
                Check.bad(AHEAD + faults[first] + second.replace("^", ""), first + 1);
            }
        }
        Check.bad("person a ^0 0 0 0 0", 4);
        Check.bad("person a;person ^a 0;", 2);
        Check.bad("person a;account x balance 5 ^b 100 a 1 a", 3);
    }

    private static void ofOnePlaceTheFirstOfTheList() {
        Check.sentence("Terms 1", "of one place the first of this list:");
        // 1 ahead of 2, 3, 4, 5.
        Check.bad("cover 1;person ^cover;", 1);
        Check.bad("cover 1;trust ^cover;", 1);
        Check.bad("loan ^bbbbbbbbb 5 due 1;", 1);
        Check.bad("person a;loan a 5 due ^10000000;", 1);
        Check.bad("person a 1 2 3 ^10000000;", 1);
        Check.bad(SIX + "trust t " + FIVE_PARTS + " ^due 1;", 1);
        Check.bad(SIX + "trust t " + FIVE_PARTS + " ^bbbbbbbbb 1;", 1);
        Check.bad(Check.several("person p", 12, ";") + "^personpm;", 1);
        // 2 ahead of 5, 3 ahead of 5, 4 ahead of 5.
        Check.bad("person a 1 2 3 ^3;", 2);
        Check.bad("person a 1 2 3 ^01;", 2);
        Check.bad(SIX + "trust t " + FIVE_PARTS + " ^pe 1;", 2);
        Check.bad(SIX + "account x balance 5 " + FIVE_PARTS + " ^pa 1;", 2);
        Check.bad(SIX + "trust t " + FIVE_PARTS + " ^t 1;", 3);
        Check.bad(SIX + "account x balance 5 " + FIVE_PARTS + " ^q 1;", 3);
        Check.bad("person a 1 2 3 ^0;", 4);
        Check.bad("person a 1 2 3 ^10000;", 4);
    }

    private static void noTokenOrNoBook() {
        Check.sentence("Terms 1", "1 the first byte that begins no TOKEN, TOKEN with which no BOOK goes on (its first byte;");
        Check.bad("^#", 1);
        Check.bad("person a;^#", 1);
        Check.bad("person a ^###;", 1);
        Check.bad("person a^\t;", 1);
        Check.bad("person a ^\u00e9;", 1);
        Check.bad("person ^abcdefghi;", 1);
        Check.bad("cover ^12345678;", 1);
        Check.bad("person a;  ^bob;", 1);
        Check.bad("person  ^123;", 1);
        Check.bad("person a \n ^balance;", 1);
        Check.bad("cover 5 ^6;", 1);
    }

    private static void theEnd() {
        Check.sentence("Terms 1", "the end: how many bytes there are);");
        for (String text : new String[] {"", " ", "\n \n", "person", "person ", "person ann", "person ann 5 \n ",
            "person ann insider", "person a;person", "trust t", "trust", "account x", "account x balance",
            "account x balance 5", "person a;account x balance 5 a", "person a;account x balance 5 a 1",
            "high", AHEAD + "high x", AHEAD + "high x 5", AHEAD + "high x 5 from", AHEAD + "high x 5 from 1",
            AHEAD + "high x 5 from 1 to", AHEAD + "high x 5 from 1 to 2", "loan", AHEAD + "loan a 5",
            AHEAD + "loan a 5 due", AHEAD + "loan a 5 due 1  ", "cover", "raise 5", "closed  "}) {
            Check.bad(text + "^", 1);
        }
        // What stands behind the first n bytes is none of it.
        PayoutDesk desk = new PayoutDesk();
        Check.feed(desk, "person ann; ");
        Check.due("book(10)", desk.book(10), Check.fault(10, 1));
        Check.feed(desk, "person ann; ");
        Check.due("book(8): ann is a", desk.book(8), Check.fault(8, 1));
        Check.feed(desk, "cover 123;");
        Check.due("book(7): 123 is 1", desk.book(7), Check.fault(7, 1));
        Check.feed(desk, "cover 1   ;");
        Check.due("book(8): of three blanks one", desk.book(8), Check.fault(8, 1));
        Check.feed(desk, "person ann; ");
        Check.due("book(0)", desk.book(0), Check.fault(0, 1));
        // The last byte of a full TAPE is a digit, a letter, a blank.
        Check.bad(" ".repeat(993) + "cover 5^", 1);
        Check.bad(" ".repeat(992) + "person a^", 1);
        Check.bad(" ".repeat(900) + "person a" + " ".repeat(92) + "^", 1);
    }

    private static void toldTwice() {
        Check.sentence("Terms 1", "2 a NAME given that is there, a MARK, a PART told twice in its LINE, cover, raise, closed a "
                + "second time (at its WORD);");
        Check.bad("person a;person   ^a;", 2);
        Check.bad("trust t;account ^t balance", 2);
        Check.good("person a;person b;", 2);
        Check.bad("person a 5 ^5;", 2);
        Check.bad("person a 5 6 ^5;", 2);
        Check.bad("person a 5 6 ^6;", 2);
        Check.good("person a 5 6;person b 5 6;", 2);
        Check.bad("person a;trust t a 1 ^a 2;", 2);
        Check.bad("person a;person b;account x balance 5 a 1 b 1 ^a 2;", 2);
        Check.good("person a;trust t a 1;trust u a 1;account x balance 5 a 1;account y balance 5 a 1;", 5);
        Check.bad("cover 1; ^cover 1;", 2);
        Check.bad("raise 1;cover 1;^raise", 2);
        Check.bad("closed 1;raise 1;cover 1;^closed !", 2);
    }

    private static void notToldAhead() {
        Check.sentence("Terms 1", "3 a NAME that is not told ahead, or is none of what is asked;");
        Check.bad("trust t ^a 1;", 3);
        Check.bad("person a;trust t a 1 ^b 1;", 3);
        Check.bad("account x balance 5 ^a 1;", 3);
        Check.bad("high ^x 5 from 1 to 2;", 3);
        Check.bad("loan ^a 5 due 1;", 3);
        // A NAME is told at the end of its LINE's first TOKENS, but not ahead of its own LINE.
        Check.bad("trust t ^t 1;", 3);
        Check.bad("account x balance 5 ^x 1;", 3);
        Check.bad(AHEAD + "trust t ^x 1;", 3);
        Check.bad(AHEAD + "account y balance 5 ^x 1;", 3);
        Check.bad(AHEAD + "high ^a 5 from 1 to 2;", 3);
        Check.bad(AHEAD + "loan ^x 5 due 1;", 3);
        Check.bad("trust t;high ^t 5 from 1 to 2;", 3);
        Check.bad("trust t;loan ^t 5 due 1;", 3);
        Check.good(AHEAD + "trust t a 1;account y balance 5 t 1;high y 5 from 1 to 2;loan a 5 due 1;", 6);
    }

    private static void outOfItsBounds() {
        Check.sentence("Terms 1", "4 a NUMBER out of its bounds;");
        Check.bad("person a ^0;", 4);
        Check.bad("person a ^10000;", 4);
        Check.bad("person a 1 ^0000000;", 4);
        Check.bad("person a;trust t a ^100;", 4);
        Check.bad("person a;account x balance 5 a ^100;", 4);
        Check.bad(AHEAD + "high x 5 from ^1000", 4);
        Check.bad(AHEAD + "high x 5 from 1 to ^1000;", 4);
        Check.bad(AHEAD + "high x 5 from 1 to ^0;", 4);
        Check.bad(AHEAD + "loan a 5 due ^1000;", 4);
        Check.bad("closed ^1000", 4);
        Check.bad("closed ^9999999", 4);
        Check.good(AHEAD + "high x 5 from 0999 to 0000999;", 3);
    }

    private static void oneTooMany() {
        Check.sentence("Terms 1", "5 one too many: at the first TOKEN of a LINE, at a 4th MARK, at the NAME of a 6th PART.");
        Check.bad(Check.several("person p", 12, ";") + " ^person", 5);
        Check.bad(Check.several("person p", 12, ";") + "^person pa 0;", 5);
        Check.bad(Check.several("trust t", 5, ";") + "\n^trust !", 5);
        Check.bad("person a;" + Check.several("account x", 10, " balance 5 a 1;") + "^account 5", 5);
        Check.bad(AHEAD + "high x 5 from 1 to 2;".repeat(6) + "^high", 5);
        Check.bad(AHEAD + "loan a 5 due 1;".repeat(8) + "^loan q", 5);
        Check.bad("person a 1 2 3 ^4", 5);
        Check.bad("person a 1 2 3 ^4 4;", 5);
        Check.good("person a 1 2 3;", 1);
        Check.bad(SIX + "trust t " + FIVE_PARTS + " ^pf", 5);
        Check.bad(SIX + "account x balance 5 " + FIVE_PARTS + " ^pf 100;", 5);
        Check.good(SIX + "trust t " + FIVE_PARTS + ";account x balance 5 " + FIVE_PARTS + ";", 8);
    }
}
