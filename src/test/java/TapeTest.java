/** THE TAPE and its TOKENS, and promises 2 and 3: feed and book. */
final class TapeTest {
    private TapeTest() {
    }

    public static void main(String[] args) {
        theTapeHasAThousandBytes();
        blanksPartTokens();
        wordsHaveOneToEightLetters();
        numbersHaveOneToSevenDigits();
        semicolonsStandAlone();
        allElseIsNoToken();
        theHighestByteIsFirst();
        howManyBytesThereAre();
        oneFeedTooMany();
        theFirstBytesAreTheBook();
        nothingOfABookAhead();
        aBookBeginsAnew();
        notSoManyBytes();
        aFaultLeavesAllElse();
        Check.finish("TapeTest");
    }

    private static void fill(PayoutDesk desk, int feeds) {
        for (int i = 0; i < feeds; i++) {
            desk.feed(0, 0, 0, 0, 0);
        }
    }

    private static void theTapeHasAThousandBytes() {
        Check.sentence("Terms 1", "THE TAPE has 1,000 bytes.");
        PayoutDesk desk = new PayoutDesk();
        fill(desk, 49);
        Check.due("bytes", desk.count(11), 980);
        Check.due("feed 50", desk.feed(0, 0, 0, 0, 0), 1000);
        Check.due("feed 51", desk.feed(0, 0, 0, 0, 0), -1);
        // The last byte of a full TAPE ends a BOOK; without it the end comes too early.
        String full = "person ann" + " ".repeat(989) + ";";
        Check.good(full, 1);
        Check.feed(desk, full);
        Check.due("book(999)", desk.book(999), Check.fault(0, 1));
        Check.feed(desk, full);
        Check.due("book(999)", desk.book(999), Check.fault(999, 1));
        Check.bad(" ".repeat(999) + "^a", 1);
        Check.bad(" ".repeat(1000) + "^", 1);
    }

    private static void blanksPartTokens() {
        Check.sentence("Terms 1", "Blanks, 32, 10, part TOKENS and mean nothing else;");
        Check.good("person ann;", 1);
        Check.good("person\nann;", 1);
        Check.good(" \n person \n\n ann \n 5\n;\n ", 1);
        Check.good("\nperson ann;", 1);
        Check.good("person a1insider;trust t a1;account x balance5a1;high x5from1to2;loan a5due1;cover1;", 6);
        Check.bad("^persona nn;", 1);
        Check.bad("person an ^n;", 1);
        Check.bad("person an\n^n;", 1);
        for (int none : new int[] {0, 9, 11, 12, 13, 31, 33, 160}) {
            Check.bad("person^" + (char) none + "ann;", 1);
        }
        PayoutDesk desk = Check.told("person a 1 2;person b 12;person c 1\n23;");
        Check.answers("MARKS of a", w -> desk.person(0, w), 2, 1, 2, 0);
        Check.answers("MARKS of b", w -> desk.person(1, w), 1, 12, 0, 0);
        Check.answers("MARKS of c", w -> desk.person(2, w), 2, 1, 23, 0);
    }

    private static void wordsHaveOneToEightLetters() {
        Check.sentence("Terms 1", "TOKENS: WORDS (small letters, each that stand together; 1 to 8)");
        Check.good("person a;person z;", 2);
        Check.good("person abcdefg;person abcdefgh;person zzzzzzzz;", 3);
        Check.good("person abcdefgh;person abcdefgi;person bbcdefgh;person bcdefgh;", 4);
        Check.bad("person ^abcdefghi;", 1);
        Check.bad("person ^abcdefghabcdefgh;", 1);
        Check.bad("person a;loan ^aaaaaaaaa 5 due 1;", 1);
        Check.bad("^insidercover 5;", 1);
        for (char none : new char[] {'A', 'Z', '`', '{'}) {
            Check.bad("person ^" + none + "nn;", 1);
            Check.bad("person an^" + none + ";", 1);
        }
    }

    private static void numbersHaveOneToSevenDigits() {
        Check.sentence("Terms 1", "NUMBERS (digits, likewise; 1 to 7)");
        PayoutDesk desk = Check.told("cover 9;raise 9999999;closed 0000090;");
        Check.due("cover", desk.count(6), 9);
        Check.due("raise", desk.count(7), 9999999);
        Check.due("closed", desk.count(5), 90);
        Check.good("cover 123456;", 1);
        Check.bad("cover ^10000000;", 1);
        Check.bad("cover ^00000001;", 1);
        // These would be 1 and 0, were they taken as 32 bits or 64.
        Check.bad("cover ^4294967297;", 1);
        Check.bad("cover ^18446744073709551616;", 1);
        for (char none : new char[] {'/', ':'}) {
            Check.bad("cover ^" + none + ";", 1);
            Check.bad("cover 5^" + none + ";", 1);
        }
        Check.bad("cover ^-5;", 1);
        Check.bad("cover 5^.5;", 1);
    }

    private static void semicolonsStandAlone() {
        Check.sentence("Terms 1", "; alone");
        Check.good("cover 5;raise 6 ; closed 7\n;", 3);
        Check.good("person a;person b;", 2);
        Check.bad("person a;^;", 1);
        Check.bad("person^;a;", 1);
        Check.bad("cover 5^:", 1);
    }

    /** One byte between the letters a and z: a blank, letter, digit or ; puts the FAULT, if any, elsewhere. */
    private static void allElseIsNoToken() {
        Check.sentence("Terms 1", "(longer WORDS, NUMBERS, all else are no TOKENS).");
        for (int b = 0; b < 256; b++) {
            String text = "person a" + (char) b + "z;";
            int got = Check.tell(new PayoutDesk(), text);
            int want = Check.fault(8, 1);
            if (b >= 'a' && b <= 'z') {
                want = 1;
            } else if (b == 32 || b == 10 || b == ';' || (b >= '1' && b <= '9')) {
                want = Check.fault(9, 1);
            } else if (b == '0') {
                want = Check.fault(8, 4);
            }
            Check.due("book with the byte " + b, got, want);
        }
    }

    private static void theHighestByteIsFirst() {
        Check.sentence("Promise 2", "Twenty bytes come behind THE TAPE, of each number the highest first:");
        PayoutDesk desk = new PayoutDesk();
        // "pers" "on a" "bcd " "9876" "   ;"
        desk.feed(0x70657273, 0x6f6e2061, 0x62636420, 0x39383736, 0x2020203b);
        // "pers" "on w" "x 12" "34  " "   i" and of the next feed "nsid" "er; ": no feed's end parts a WORD.
        desk.feed(0x70657273, 0x6f6e2077, 0x78203132, 0x33342020, 0x20202069);
        desk.feed(0x6e736964, 0x65723b20, 0x20202020, 0x20202020, 0xfffefdfc);
        Check.due("book(47)", desk.book(47), 2);
        Check.answers("the first", w -> desk.person(0, w), 1, 9876, 0, 0, 0, 0, 0);
        Check.answers("the second", w -> desk.person(1, w), 1, 1234, 0, 0, 1, 1, 22);
        int[] aboveAll = {0xff202020, 0x20802020, 0x2020c820, 0x202020fe};
        for (int i = 0; i < 4; i++) {
            desk.feed(0x70657273, 0x6f6e2061, 0x6e6e2031, 0x3233343b, aboveAll[i]);
            Check.due("a byte above 127", desk.book(20), Check.fault(16 + i, 1));
        }
    }

    private static void howManyBytesThereAre() {
        Check.sentence("Promise 2", "how many it has;");
        PayoutDesk desk = new PayoutDesk();
        for (int i = 1; i <= 50; i++) {
            Check.due("feed " + i, desk.feed(-1, 0, 1, Integer.MIN_VALUE, Integer.MAX_VALUE), 20 * i);
            Check.due("bytes", desk.count(11), 20 * i);
        }
    }

    private static void oneFeedTooMany() {
        Check.sentence("Promise 2", "NONE, and none come, if it would have more than 1,000.");
        PayoutDesk desk = new PayoutDesk();
        Check.feed(desk, "person ann;" + " ".repeat(989));
        for (int i = 0; i < 3; i++) {
            Check.due("feed of a full TAPE", desk.feed(-1, -1, -1, -1, -1), -1);
            Check.due("bytes", desk.count(11), 1000);
        }
        Check.due("book(1001)", desk.book(1001), -1);
        Check.due("book(1000)", desk.book(1000), 1);
        Check.due("feed of an empty TAPE", desk.feed(0, 0, 0, 0, 0), 20);
    }

    private static void theFirstBytesAreTheBook() {
        Check.sentence("Promise 3", "The first n bytes of THE TAPE (it is empty then) are the BOOK from now on: how many LINES;");
        PayoutDesk desk = new PayoutDesk();
        Check.feed(desk, "person ann;person bob;");
        Check.due("book(11)", desk.book(11), 1);
        Check.due("PERSONS", desk.count(0), 1);
        Check.due("THE TAPE is empty", desk.count(11), 0);
        Check.due("feed is behind nothing", Check.feed(desk, "person bob;person"), 20);
        Check.feed(desk, "   ;person ann 5;");
        Check.due("book(12): only the first one", desk.book(12), Check.fault(11, 1));
        Check.due("the BOOK from now on", Check.tell(desk, "person bob;person ann 5;"), 2);
        Check.due("PERSONS", desk.count(0), 2);
        Check.due("first letter", desk.person(0, 6), 1);
        Check.feed(desk, "person ann;");
        Check.due("book(3): a part of a WORD", desk.book(3), Check.fault(0, 1));
        Check.due("THE TAPE is empty", desk.count(11), 0);
    }

    /** Small BOOKS behind full ones and behind FAULTS answer all that they answer on a new object. */
    private static void nothingOfABookAhead() {
        String full = Check.several("person p", 12, " 1 insider;") + "trust ta pa 0;trust tb ta 8 pa 9;trust tc tb 0;"
                + "trust td tc 1;trust te td 1;" + Check.several("account x", 10, " balance 90 pb 1 ta 3;")
                + "high xa 50 from 0 to 9;".repeat(6) + "loan pa 70 due 0;".repeat(8) + "cover 3;raise 4;closed 5;";
        String[] small = {"person q;", "cover 8;", "person q 1;person r 2;trust t;account x balance 50 q 1 r 1;",
            "person q;person r;trust t r 5;account x balance 50 t 1;high x 20 from 0 to 1;loan r 4 due 0;cover 6;"};
        for (String text : small) {
            long[] want = everything(Check.told(text));
            for (String ahead : new String[] {full, full + "!", "person a 1 insider;person b 1 2 ^;"}) {
                PayoutDesk desk = Check.told(full);
                Check.tell(desk, full);
                Check.tell(desk, ahead);
                Check.tell(desk, text);
                long[] got = everything(desk);
                for (int i = 0; i < want.length; i++) {
                    Check.due("answer " + i + " of \"" + text + "\"", got[i], want[i]);
                }
            }
        }
    }

    /** The answers to some of all questions. */
    private static long[] everything(PayoutDesk desk) {
        long[] all = new long[400];
        int next = 0;
        for (int i = 0; i < 3; i++) {
            for (int what = 0; what < 7; what++) {
                all[next++] = desk.person(i, what);
                all[next++] = desk.trust(i, what);
                all[next++] = desk.account(i, what);
                all[next++] = desk.view(i, what);
                all[next++] = desk.estate(15 * what, i);
            }
            for (int p = 0; p < 3; p++) {
                all[next++] = desk.ways(i, p);
                all[next++] = desk.apart(i, p);
                all[next++] = desk.account(i, 0) >= 0 && desk.person(p, 0) >= 0 ? desk.share(i, p) : -9;
            }
            all[next++] = desk.view(i, 8);
            all[next++] = desk.who(i);
            all[next++] = desk.ranked(i);
            all[next++] = desk.enough(i);
            all[next++] = desk.onDay(i);
            all[next++] = desk.mark(i, false) ? 1 : 0;
        }
        for (int what = 0; what < 12; what++) {
            all[next++] = desk.count(what);
            all[next++] = desk.all(what);
        }
        all[next++] = desk.bestDay(0, 999, 0);
        all[next++] = desk.bestDay(0, 999, 1);
        all[next++] = desk.coverFor(100);
        return all;
    }

    private static void aBookBeginsAnew() {
        Check.sentence("Promise 3", "nobody is JOINED, no MARK LEFT OUT, nothing can be UNDONE, nothing is KEPT.");
        PayoutDesk desk = Check.told("person ann 7;person bob;account a balance 500 ann 1;cover 9;raise 8;closed 7;");
        desk.join(0, 1);
        desk.mark(7, true);
        for (int k = 0; k <= 2; k++) {
            desk.keep(k, false);
        }
        Check.due("book", Check.tell(desk, "person eva 7;person kim 7;person lea;account a balance 3 kim 2;"), 4);
        Check.answers("count", desk::count, 3, 0, 1, 0, 0, 0, 100000, 50000, 0, 0, 0, 0);
        Check.due("DEPOSITORS: the MARK counts", desk.all(5), 2);
        Check.due("split", desk.split(0), -1);
        Check.due("undo", desk.undo(), -1);
        for (int k = 0; k <= 2; k++) {
            Check.due("keep back " + k, desk.keep(k, true), false);
        }
        Check.due("SHARE", desk.share(0, 1), 3);
        Check.due("SHARE", desk.share(0, 0), 0);
        // The same BOOK once more begins anew, too.
        desk.balance(0, 9);
        desk.tell(1, 2);
        Check.due("book", Check.tell(desk, "person eva 7;person kim 7;person lea;account a balance 3 kim 2;"), 4);
        Check.due("balance", desk.account(0, 0), 3);
        Check.due("cover", desk.count(6), 100000);
        Check.due("ACTS", desk.count(10), 0);
    }

    private static void notSoManyBytes() {
        Check.sentence("Promise 3", "NONE: it has not so many, n is below 0 (THE TAPE stays).");
        PayoutDesk desk = new PayoutDesk();
        Check.due("book(1) of none", desk.book(1), -1);
        Check.due("book(-1) of none", desk.book(-1), -1);
        Check.feed(desk, "person ann;person bob;");
        for (int n : new int[] {-1, 41, 1000, Integer.MIN_VALUE, Integer.MAX_VALUE}) {
            Check.due("book(" + n + ")", desk.book(n), -1);
            Check.due("THE TAPE stays", desk.count(11), 40);
        }
        Check.due("book(40)", desk.book(40), 2);
        Check.due("book(-1)", desk.book(-1), -1);
        Check.due("the BOOK stays", desk.count(0), 2);
    }

    private static void aFaultLeavesAllElse() {
        Check.sentence("Promise 3", "-2 less (8 * place + kind): a FAULT (all else stays).");
        PayoutDesk empty = new PayoutDesk();
        Check.due("book(0)", empty.book(0), -3);
        Check.due("still no BOOK", empty.keep(0, false), false);
        Check.due("still no BOOK", empty.tell(0, 5), -1);
        Check.due("cover", empty.count(6), 100000);
        PayoutDesk desk = Check.told("person ann 7;person bob;account a balance 500 ann 1;cover 9;");
        desk.join(0, 1);
        desk.mark(7, true);
        desk.balance(0, 600);
        desk.keep(2, false);
        // All that a BOOK may tell stands ahead of the FAULT.
        String spoilt = "person zoe 9;trust t zoe 1;account b balance 5 t 1;high b 5 from 1 to 2;loan zoe 5 due 1;"
                + "cover 1;raise 1;closed 1;person zed 0;";
        Check.feed(desk, spoilt);
        Check.due("book", desk.book(spoilt.length()), -2 - (8 * (spoilt.length() - 2) + 4));
        Check.answers("count", desk::count, 2, 0, 1, 0, 0, 0, 9, 50000, 1, 1, 3, 0);
        Check.due("first letter", desk.person(0, 6), 0);
        Check.due("MARK", desk.person(0, 1), 7);
        Check.due("balance", desk.account(0, 0), 600);
        Check.due("SHARE", desk.share(0, 0), 600);
        Check.due("PAID", desk.all(2), 9);
        Check.due("DEPOSITORS", desk.all(5), 1);
        Check.due("undo", desk.undo(), 2);
        Check.due("keep", desk.keep(2, true), true);
        Check.due("balance", desk.account(0, 0), 600);
    }
}
