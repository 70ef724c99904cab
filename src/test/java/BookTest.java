/** Promises 2 and 3: feed and book, with THE TAPE, TOKENS and FAULTS. */
final class BookTest {
    private BookTest() {
    }

    public static void main(String[] args) {
        theTapeTakesAThousandBytes();
        theHighestByteIsFirst();
        theFirstBytesAreTheBook();
        aFaultLeavesAllElse();
        aNewBookBeginsAnew();
        tokensAreParted();
        bytesThatBeginNoToken();
        tokensWithWhichNoBookGoesOn();
        theEndIsTooEarly();
        toldTwice();
        notToldAhead();
        outOfBounds();
        oneTooMany();
        theFirstOfTheListInOnePlace();
        theLeastPlace();
        asMuchAsThereMayBe();
        Check.finish("BookTest");
    }

    private static void theTapeTakesAThousandBytes() {
        PayoutDesk desk = new PayoutDesk();
        for (int i = 1; i <= 50; i++) {
            Check.due("feed " + i, desk.feed(0, 0, 0, 0, 0), 20 * i);
            Check.due("bytes", desk.count(11), 20 * i);
        }
        Check.due("feed 51", desk.feed(0, 0, 0, 0, 0), -1);
        Check.due("bytes", desk.count(11), 1000);
        Check.due("book(1001)", desk.book(1001), -1);
        Check.due("book(1000)", desk.book(1000), Check.fault(0, 1));
        Check.due("feed after it", desk.feed(0, 0, 0, 0, 0), 20);
    }

    private static void theHighestByteIsFirst() {
        PayoutDesk desk = new PayoutDesk();
        // "pers" "on a" "nn 1" "234;" and bytes above 127 behind it.
        desk.feed(0x70657273, 0x6f6e2061, 0x6e6e2031, 0x3233343b, 0xfffefdfc);
        Check.due("book(16)", desk.book(16), 1);
        Check.due("its MARK", desk.person(0, 1), 1234);
        desk.feed(0x70657273, 0x6f6e2061, 0x6e6e2031, 0x3233343b, 0xfffefdfc);
        Check.due("book(17)", desk.book(17), Check.fault(16, 1));
    }

    private static void theFirstBytesAreTheBook() {
        PayoutDesk desk = new PayoutDesk();
        Check.due("book(1) of none", desk.book(1), -1);
        Check.feed(desk, "person ann;person bob;");
        Check.due("book(-1)", desk.book(-1), -1);
        Check.due("book(MIN)", desk.book(Integer.MIN_VALUE), -1);
        Check.due("book(MAX)", desk.book(Integer.MAX_VALUE), -1);
        Check.due("book(41)", desk.book(41), -1);
        Check.due("THE TAPE stays", desk.count(11), 40);
        Check.due("book(11)", desk.book(11), 1);
        Check.due("PERSONS", desk.count(0), 1);
        Check.due("THE TAPE is empty", desk.count(11), 0);
        Check.due("the second feed is behind nothing", Check.tell(desk, "person bob;person ann 5;"), 2);
        Check.due("PERSONS", desk.count(0), 2);
        Check.due("first letter", desk.person(0, 6), 1);
    }

    private static void aFaultLeavesAllElse() {
        PayoutDesk desk = Check.told("person ann 7;person bob;account a balance 500 ann 1;cover 9;");
        desk.join(0, 1);
        desk.mark(7, true);
        desk.balance(0, 600);
        desk.keep(2, false);
        Check.feed(desk, "person zoe;account b balance 5 zed 1;");
        Check.due("book", desk.book(37), Check.fault(31, 3));
        Check.due("THE TAPE is empty", desk.count(11), 0);
        long[] counts = {2, 0, 1, 0, 0, 0, 9, 50000, 1, 1, 3};
        for (int what = 0; what < counts.length; what++) {
            Check.due("count(" + what + ")", desk.count(what), counts[what]);
        }
        Check.due("first letter", desk.person(0, 6), 0);
        Check.due("balance", desk.account(0, 0), 600);
        Check.due("DEPOSITORS", desk.all(5), 1);
        Check.due("undo", desk.undo(), 2);
        Check.due("keep", desk.keep(2, true), true);
    }

    private static void aNewBookBeginsAnew() {
        PayoutDesk desk = Check.told("person ann 7;person bob;account a balance 500 ann 1;cover 9;raise 8;closed 7;");
        desk.join(0, 1);
        desk.mark(7, true);
        desk.keep(1, false);
        Check.due("book", Check.tell(desk, "person eva 7;person kim 7;account a balance 3 kim 2;"), 3);
        Check.due("closed", desk.count(5), 0);
        Check.due("cover", desk.count(6), 100000);
        Check.due("raise", desk.count(7), 50000);
        Check.due("JOINS", desk.count(8), 0);
        Check.due("LEFT OUT", desk.count(9), 0);
        Check.due("ACTS", desk.count(10), 0);
        Check.due("undo", desk.undo(), -1);
        Check.due("keep back", desk.keep(1, true), false);
        Check.due("DEPOSITORS", desk.all(5), 1);
        Check.due("SHARE", desk.share(0, 1), 3);
        Check.due("SHARE", desk.share(0, 0), 0);
    }

    private static void is(String text, int want) {
        Check.due("book of \"" + text + "\"", Check.tell(new PayoutDesk(), text), want);
    }

    private static void fault(String text, int place, int kind) {
        is(text, Check.fault(place, kind));
    }

    private static void tokensAreParted() {
        is("person ann;", 1);
        is("\n\nperson\nann\n;\n", 1);
        is("person ann12 insider;", 1);
        is("person ann12insider;", 1);
        is("  person   ann   0000001 ; ", 1);
        is("person abcdefgh;", 1);
        is("cover 9999999;", 1);
        is("cover 0;raise 0;closed 0;", 3);
        is("person an n;", Check.fault(10, 1));
    }

    private static void bytesThatBeginNoToken() {
        fault("Person ann;", 0, 1);
        fault("person Ann;", 7, 1);
        fault("person ann!;", 10, 1);
        fault("person ann,", 10, 1);
        fault("person\tann;", 6, 1);
        fault("person ann\r;", 10, 1);
        fault("person\u00e9;", 6, 1);
        fault("person \u0000;", 7, 1);
        fault("person abcdefghi;", 7, 1);
        fault("person ann 00000001;", 11, 1);
        fault("cover 12345678;", 6, 1);
        fault("cover 99999999999999999999;", 6, 1);
        fault("person ann;#", 11, 1);
    }

    private static void tokensWithWhichNoBookGoesOn() {
        fault(";", 0, 1);
        fault("5", 0, 1);
        fault("ann;", 0, 1);
        fault("insider ann;", 0, 1);
        fault("balance 5;", 0, 1);
        fault("person ann;;", 11, 1);
        fault("person ann;bob", 11, 1);
        fault("person 5;", 7, 1);
        fault("person ;", 7, 1);
        for (String taken : new String[] {"person", "insider", "trust", "account", "balance", "high",
            "from", "to", "loan", "due", "cover", "raise", "closed"}) {
            fault("person " + taken + ";", 7, 1);
            fault("trust " + taken + ";", 6, 1);
            fault("account " + taken + " balance 5;", 8, 1);
            fault("high " + taken + " 5 from 1 to 2;", 5, 1);
            fault("loan " + taken + " 5 due 1;", 5, 1);
            fault("person a;trust t " + taken + " 1;", 17, 1);
        }
        is("person persona;person insiders;person tot;person clos;person fro;", 5);
        fault("person ann insider insider;", 19, 1);
        fault("person ann insider 5;", 19, 1);
        fault("person ann 5 bob;", 13, 1);
        fault("person ann cover 5;", 11, 1);
        fault("trust t 5;", 8, 1);
        fault("person a;trust t a;", 18, 1);
        fault("person a;trust t a a;", 19, 1);
        fault("person a;trust t a 5 5;", 21, 1);
        fault("person a;account x a 5;", 19, 1);
        fault("person a;account x balance a 5;", 27, 1);
        fault("person a;account x balance 7;", 28, 1);
        fault("person a;account x balance 7 8;", 29, 1);
        fault("person a;account x balance 7 a;", 30, 1);
        fault("person a;account x balance 7 a 1 high;", 33, 1);
        String ahead = "person a;account x balance 7 a 1;";
        fault(ahead + "high 5;", 38, 1);
        fault(ahead + "high x from;", 40, 1);
        fault(ahead + "high x 5 to;", 42, 1);
        fault(ahead + "high x 5 from to;", 47, 1);
        fault(ahead + "high x 5 from 1 from;", 49, 1);
        fault(ahead + "high x 5 from 1;", 48, 1);
        fault(ahead + "high x 5 from 1 to;", 51, 1);
        fault(ahead + "high x 5 from 1 to 2 3;", 54, 1);
        fault(ahead + "loan 5;", 38, 1);
        fault(ahead + "loan a due 5;", 40, 1);
        fault(ahead + "loan a 5;", 41, 1);
        fault(ahead + "loan a 5 due;", 45, 1);
        fault(ahead + "loan a 5 due due;", 46, 1);
        fault(ahead + "loan a 5 due 1 1;", 48, 1);
        fault("cover ;", 6, 1);
        fault("cover a;", 6, 1);
        fault("cover 5 5;", 8, 1);
        fault("raise raise;", 6, 1);
        fault("closed;", 6, 1);
    }

    private static void theEndIsTooEarly() {
        fault("", 0, 1);
        fault("   ", 3, 1);
        fault("person", 6, 1);
        fault("person ", 7, 1);
        fault("person ann", 10, 1);
        fault("person ann 5 \n ", 15, 1);
        fault("person ann insider", 18, 1);
        fault("person ann;person", 17, 1);
        fault("trust t", 7, 1);
        fault("account x balance", 17, 1);
        fault("person a;account x balance 5 a", 30, 1);
        fault("closed 5", 8, 1);
        PayoutDesk desk = new PayoutDesk();
        Check.feed(desk, "person ann;");
        Check.due("book(3): a part of a WORD", desk.book(3), Check.fault(0, 1));
        Check.feed(desk, "person ann;");
        Check.due("book(0)", desk.book(0), Check.fault(0, 1));
    }

    private static void toldTwice() {
        fault("person a;person a;", 16, 2);
        fault("person a;trust a;", 15, 2);
        fault("person a;account a balance 5 a 1;", 17, 2);
        fault("trust t;person t;", 15, 2);
        fault("trust t;trust t;", 14, 2);
        fault("person a;account x balance 5 a 1;person x;", 40, 2);
        fault("person a;account x balance 5 a 1;account x balance 5 a 1;", 41, 2);
        fault("person a 5 5;", 11, 2);
        fault("person a 5 6 05;", 13, 2);
        is("person a 5 6;person b 6 5;", 2);
        fault("person a;trust t a 1 a 2;", 21, 2);
        fault("person a;trust s;trust t s 1 a 2 s 0;", 33, 2);
        fault("person a;account x balance 5 a 1 a 1;", 33, 2);
        fault("cover 1;cover 1;", 8, 2);
        fault("raise 1;cover 1;raise 1;", 16, 2);
        fault("closed 1;closed", 9, 2);
        is("person abcdefgh;person bcdefgh;person abcdefg;", 3);
    }

    private static void notToldAhead() {
        fault("trust t a 1;", 8, 3);
        fault("trust t t 1;", 8, 3);
        fault("trust s t 1;trust t;", 8, 3);
        fault("account x balance 5 a 1;person a;", 20, 3);
        fault("account x balance 5 x 1;", 20, 3);
        fault("person a;account x balance 5 a 1;account y balance 5 x 1;", 53, 3);
        fault("person a;account x balance 5 a 1;trust t x 1;", 41, 3);
        fault("high x 5 from 1 to 2;", 5, 3);
        fault("person a;high a 5 from 1 to 2;", 14, 3);
        fault("trust t;high t 5 from 1 to 2;", 13, 3);
        fault("loan a 5 due 1;", 5, 3);
        fault("trust t;loan t 5 due 1;", 13, 3);
        fault("person a;account x balance 5 a 1;loan x 5 due 1;", 38, 3);
    }

    private static void outOfBounds() {
        fault("person a 0;", 9, 4);
        fault("person a 10000;", 9, 4);
        fault("person a 9999999;", 9, 4);
        is("person a 1 9999;", 1);
        fault("person a;trust t a 100;", 19, 4);
        is("person a;trust t a 99;", 2);
        fault("person a;account x balance 5 a 100;", 31, 4);
        is("person a;account x balance 9999999 a 0;", 2);
        fault("closed 1000;", 7, 4);
        is("closed 999;", 1);
        String ahead = "person a;account x balance 7 a 1;";
        fault(ahead + "high x 5 from 1000 to 1;", 47, 4);
        fault(ahead + "high x 5 from 9 to 1000;", 52, 4);
        fault(ahead + "high x 5 from 9 to 8;", 52, 4);
        is(ahead + "high x 9999999 from 9 to 9;high x 0 from 0 to 999;", 4);
        fault(ahead + "loan a 5 due 1000;", 46, 4);
        is(ahead + "loan a 9999999 due 999;loan a 0 due 0;", 4);
    }

    private static String several(String line, int times, String end) {
        StringBuilder text = new StringBuilder();
        for (int i = 0; i < times; i++) {
            text.append(line).append((char) ('a' + i)).append(end);
        }
        return text.toString();
    }

    private static void oneTooMany() {
        is(several("person p", 12, ";"), 12);
        fault(several("person p", 13, ";"), 12 * 10, 5);
        is(several("trust t", 5, ";"), 5);
        fault(several("trust t", 6, ";"), 5 * 9, 5);
        String ahead = "person a;";
        String account = " balance 5 a 1;";
        is(ahead + several("account x", 10, account), 11);
        fault(ahead + several("account x", 11, account), 9 + 10 * 25, 5);
        String high = "account x balance 5 a 1;high x 5 from 1 to 2;high x 5 from 1 to 2;high x 5 from 1 to 2;"
                + "high x 5 from 1 to 2;high x 5 from 1 to 2;high x 5 from 1 to 2;";
        is(ahead + high, 8);
        fault(ahead + high + "high", 9 + high.length(), 5);
        String loan = "loan a 5 due 1;";
        is(ahead + loan.repeat(8), 9);
        fault(ahead + loan.repeat(9), 9 + 8 * 15, 5);
        fault("person a 1 2 3 4;", 15, 5);
        is("person a 1 2 3 insider;", 1);
        String people = several("person p", 6, ";");
        String five = "pa 1 pb 1 pc 1 pd 1 pe 1";
        is(people + "trust t " + five + ";", 7);
        fault(people + "trust t " + five + " pf 1;", 60 + 8 + 25, 5);
        fault(people + "account x balance 5 " + five + " pf 1;", 60 + 20 + 25, 5);
    }

    private static void theFirstOfTheListInOnePlace() {
        fault("person a 1 2 3 3;", 15, 2);
        fault("person a 1 2 3 0;", 15, 4);
        fault("person a 1 2 3 10000;", 15, 4);
        fault("person a 1 2 3 12345678;", 15, 1);
        String people = several("person p", 6, ";");
        String five = "pa 1 pb 1 pc 1 pd 1 pe 1";
        fault(people + "trust t " + five + " pe 1;", 60 + 8 + 25, 2);
        fault(people + "trust t " + five + " t 1;", 60 + 8 + 25, 3);
        fault(people + "trust t " + five + " due 1;", 60 + 8 + 25, 1);
        fault(people + "trust t " + five + " 1;", 60 + 8 + 25, 1);
        String twelve = several("person p", 12, ";");
        fault(twelve + "person pa 0;", 120, 5);
        fault(twelve + "person", 120, 5);
    }

    private static void theLeastPlace() {
        fault("person a 0;person a;!", 9, 4);
        fault("person a;person a 0;!", 16, 2);
        fault("person a !;person a;", 9, 1);
        fault("person a;loan b 5 due 1000;person a;", 14, 3);
    }

    private static void asMuchAsThereMayBe() {
        StringBuilder text = new StringBuilder();
        text.append(several("person ", 12, " 1;"));
        text.append("trust ta a 9;trust tb ta 1;trust tc tb 1;trust td tc 1;trust te td 1;");
        text.append(several("account x", 10, " balance 100 te 1;"));
        text.append("high xa 5 from 1 to 2;".repeat(6));
        text.append("loan a 5 due 1;".repeat(8));
        text.append("cover 5;raise 5;closed 5;");
        PayoutDesk desk = new PayoutDesk();
        Check.due("bytes", Check.feed(desk, text.toString()) <= 1000, true);
        Check.due("all LINES", desk.book(text.length()), 44);
        Check.due("trust(4, 3)", desk.trust(4, 3), 5);
        Check.due("HAS", desk.all(0), 1000);
        Check.due("bestDay(0, 999, 1)", desk.bestDay(0, 999, 1), 1);
        Check.due("bestDay(0, 999, 0)", desk.bestDay(0, 999, 0), 0);
        Check.due("bestDay(1, 999, 0)", desk.bestDay(1, 999, 0), 3);
        Check.due("view(0, 1)", desk.view(0, 1), 40);
        Check.due("view(0, 4)", desk.view(0, 4), 0);
        Check.due("ways(9, 0)", desk.ways(9, 0), 1);
        Check.due("one more LINE", Check.tell(desk, text + "cover 6;"), Check.fault(text.length(), 2));
    }
}
