/** The BOOK: what each LINE is made of, how much of it there may be, and the bounds of its NUMBERS. */
final class BookTest {
    private static final String NAME = "zz";
    private static final String NUMBER = "5";
    private static final String END = "";
    /** One TOKEN of each kind, the end, and a byte that begins none. */
    private static final String[] TOKENS = {"person", "insider", "trust", "account", "balance", "high", "from", "to",
        "loan", "due", "cover", "raise", "closed", NAME, NUMBER, ";", "%", END};
    private static final String AHEAD = "person a;person zz;account x balance 7 a 1;";

    private BookTest() {
    }

    public static void main(String[] args) {
        oneLineAtLeast();
        personLines();
        theirMarks();
        trustLines();
        theirParts();
        accountLines();
        oneAtLeast();
        highLines();
        theirAccountAmountAndDays();
        loanLines();
        theirPersonAmountAndDay();
        settingLines();
        onceAtMost();
        namesAreOtherWords();
        noNameTwice();
        asManyAsThereMayBe();
        numberedAsTold();
        amounts();
        allThatThereMayBe();
        Check.finish("BookTest");
    }

    /** Behind this text, each TOKEN that is none of these is a FAULT at its first byte, and these are not. */
    private static void goesOn(String ahead, String... with) {
        for (String token : TOKENS) {
            String text = ahead + " " + token + (token.isEmpty() ? "" : " ");
            int place = ahead.length() + 1;
            boolean fault = Check.tell(new PayoutDesk(), text) == Check.fault(place, 1);
            Check.due("\"" + ahead + "\" goes on with \"" + token + "\"", !fault, java.util.List.of(with).contains(token));
        }
    }

    private static void oneLineAtLeast() {
        Check.sentence("Terms 1", "BOOK: LINE { LINE }:");
        Check.bad("^", 1);
        Check.bad(" \n ^", 1);
        Check.good("cover 5;", 1);
        Check.good("cover 5;raise 5;", 2);
        goesOn("", "person", "trust", "account", "high", "loan", "cover", "raise", "closed");
        goesOn("person a;", "person", "trust", "account", "high", "loan", "cover", "raise", "closed", END);
    }

    private static void personLines() {
        Check.sentence("Terms 1", "person NAME { NUMBER } [ insider ] ;");
        goesOn("person", NAME);
        goesOn("person a", NUMBER, "insider", ";");
        goesOn("person a 1", NUMBER, "insider", ";");
        goesOn("person a 1 2", NUMBER, "insider", ";");
        goesOn("person a 1 2 3", NUMBER, "insider", ";");
        goesOn("person a insider", ";");
        goesOn("person a 1 2 3 insider", ";");
        Check.good("person a;person b 1;person c 1 2;person d 1 2 3;person e insider;person f 1 2 3 insider;", 6);
    }

    private static void theirMarks() {
        Check.sentence("Terms 1", "(its MARKS, 1 to 9999, at most 3, unlike)");
        Check.bad("person a ^0;", 4);
        Check.good("person a 1;", 1);
        Check.good("person a 9999;", 1);
        Check.bad("person a ^10000;", 4);
        Check.bad("person a 1 2 ^0;", 4);
        Check.bad("person a 1 2 ^10000;", 4);
        Check.good("person a 7 8 9;", 1);
        Check.bad("person a 7 8 9 ^1;", 5);
        Check.bad("person a 7 ^7;", 2);
        Check.bad("person a 7 8 ^7;", 2);
        Check.bad("person a 7 8 ^008;", 2);
        Check.good("person a 7 8;person b 8 7;", 2);
    }

    private static void trustLines() {
        Check.sentence("Terms 1", "| trust NAME { NAME NUMBER } ;");
        goesOn("person a;trust", NAME);
        goesOn("person zz;trust t", NAME, ";");
        goesOn("person a;trust t a", NUMBER);
        goesOn("person a;person zz;trust t a 1", NAME, ";");
        goesOn("person a;person zz;trust t a 1 zz", NUMBER);
        Check.good("trust t;trust u t 5;", 2);
    }

    private static void theirParts() {
        Check.sentence("Terms 1", "(its PARTS, at most 5: a PERSON or a TRUST told ahead, each once, and a WEIGHT 0 to 99)");
        String six = Check.several("person p", 6, ";");
        Check.good(six + "trust t pa 1 pb 1 pc 1 pd 1 pe 1;", 7);
        Check.bad(six + "trust t pa 1 pb 1 pc 1 pd 1 pe 1 ^pf 1;", 5);
        Check.good("person a;trust t a 1;trust u t 1 a 1;", 3);
        Check.bad("trust t ^a 1;person a;", 3);
        Check.bad("trust t ^u 1;trust u;", 3);
        Check.bad("trust t ^t 1;", 3);
        Check.bad(AHEAD + "trust t ^x 1;", 3);
        Check.bad("person a;trust t a 1 ^a 1;", 2);
        Check.bad("person a;trust s;trust t s 1 a 1 ^s 1;", 2);
        Check.good("person a;trust t a 0;trust u a 99;", 3);
        Check.bad("person a;trust t a ^100;", 4);
        Check.due("WEIGHT 99", Check.told("person a;trust t a 99;").trust(0, 1), 99);
    }

    private static void accountLines() {
        Check.sentence("Terms 1", "| account NAME balance NUMBER { NAME NUMBER } ;");
        goesOn("person a;account", NAME);
        goesOn("person a;account x", "balance");
        goesOn("person a;account x balance", NUMBER);
        goesOn("person zz;account x balance 7", NAME);
        goesOn("person a;account x balance 7 a", NUMBER);
        goesOn("person a;person zz;account x balance 7 a 1", NAME, ";");
        goesOn("person a;person zz;account x balance 7 a 1 zz", NUMBER);
    }

    private static void oneAtLeast() {
        Check.sentence("Terms 1", "(its PARTS likewise, one at least)");
        Check.bad("person a;account x balance 7^;", 1);
        Check.good("person a;account x balance 7 a 1;", 2);
        String six = Check.several("person p", 6, ";");
        Check.good(six + "account x balance 7 pa 1 pb 1 pc 1 pd 1 pe 1;", 7);
        Check.bad(six + "account x balance 7 pa 1 pb 1 pc 1 pd 1 pe 1 ^pf 1;", 5);
        Check.good("person a;trust t a 1;account x balance 7 a 1 t 1;", 3);
        Check.bad("account x balance 7 ^a 1;person a;", 3);
        Check.bad("account x balance 7 ^t 1;trust t;", 3);
        Check.bad("person a;account x balance 7 a 1 ^x 1;", 3);
        Check.bad(AHEAD + "account y balance 7 ^x 1;", 3);
        Check.bad("person a;account x balance 7 a 1 ^a 2;", 2);
        Check.good("person a;account x balance 7 a 0;", 2);
        Check.good("person a;account x balance 7 a 99;", 2);
        Check.bad("person a;account x balance 7 a ^100;", 4);
    }

    private static void highLines() {
        Check.sentence("Terms 1", "| high NAME NUMBER from NUMBER to NUMBER ;");
        goesOn(AHEAD + "high", NAME);
        goesOn(AHEAD + "high x", NUMBER);
        goesOn(AHEAD + "high x 1", "from");
        goesOn(AHEAD + "high x 1 from", NUMBER);
        goesOn(AHEAD + "high x 1 from 1", "to");
        goesOn(AHEAD + "high x 1 from 1 to", NUMBER);
        goesOn(AHEAD + "high x 1 from 1 to 1", ";");
    }

    private static void theirAccountAmountAndDays() {
        Check.sentence("Terms 1", "(an ACCOUNT told ahead, an amount, two DAYS, 0 to 999, the second one no less)");
        Check.good(AHEAD + "high x 5 from 1 to 2;", 4);
        Check.bad("person a;high ^x 5 from 1 to 2;account x balance 7 a 1;", 3);
        Check.bad(AHEAD + "high ^a 5 from 1 to 2;", 3);
        Check.bad(AHEAD + "trust t a 1;high ^t 5 from 1 to 2;", 3);
        Check.good(AHEAD + "high x 0 from 1 to 2;high x 9999999 from 1 to 2;", 5);
        Check.good(AHEAD + "high x 5 from 0 to 0;high x 5 from 999 to 999;high x 5 from 0 to 999;", 6);
        Check.bad(AHEAD + "high x 5 from ^1000 to 1000;", 4);
        Check.bad(AHEAD + "high x 5 from 0 to ^1000;", 4);
        Check.good(AHEAD + "high x 5 from 8 to 8;high x 5 from 8 to 9;", 5);
        Check.bad(AHEAD + "high x 5 from 8 to ^7;", 4);
        Check.bad(AHEAD + "high x 5 from 999 to ^0;", 4);
    }

    private static void loanLines() {
        Check.sentence("Terms 1", "| loan NAME NUMBER due NUMBER ;");
        goesOn(AHEAD + "loan", NAME);
        goesOn(AHEAD + "loan a", NUMBER);
        goesOn(AHEAD + "loan a 1", "due");
        goesOn(AHEAD + "loan a 1 due", NUMBER);
        goesOn(AHEAD + "loan a 1 due 1", ";");
    }

    private static void theirPersonAmountAndDay() {
        Check.sentence("Terms 1", "(a PERSON told ahead, an amount, a DAY 0 to 999)");
        Check.good("person a;loan a 5 due 1;", 2);
        Check.bad("loan ^a 5 due 1;person a;", 3);
        Check.bad("trust t;loan ^t 5 due 1;", 3);
        Check.bad(AHEAD + "loan ^x 5 due 1;", 3);
        Check.good("person a;loan a 0 due 1;loan a 9999999 due 1;", 3);
        Check.good("person a;loan a 5 due 0;loan a 5 due 999;", 3);
        Check.bad("person a;loan a 5 due ^1000;", 4);
    }

    private static void settingLines() {
        Check.sentence("Terms 1", "| cover NUMBER ; | raise NUMBER ; | closed NUMBER ;");
        for (String word : new String[] {"cover", "raise", "closed"}) {
            goesOn(word, NUMBER);
            goesOn(word + " 7", ";");
        }
    }

    private static void onceAtMost() {
        Check.sentence("Terms 1", "(a DAY 0 to 999; each of these three once at most; without 100000, 50000, 0).");
        Check.good("closed 0;", 1);
        Check.good("closed 999;", 1);
        Check.bad("closed ^1000;", 4);
        Check.good("closed 1;raise 1;cover 1;", 3);
        for (String word : new String[] {"cover", "raise", "closed"}) {
            Check.good(word + " 1;", 1);
            Check.bad(word + " 1;^" + word + " 1;", 2);
            Check.bad(word + " 1;person a;^" + word + " 2;", 2);
        }
        settingsOf("person a;", 0, 100000, 50000);
        settingsOf("cover 7;", 0, 7, 50000);
        settingsOf("raise 7;", 0, 100000, 7);
        settingsOf("closed 7;", 7, 100000, 50000);
        settingsOf("raise 0;cover 0;closed 0;", 0, 0, 0);
    }

    private static void settingsOf(String text, int closed, int cover, int raise) {
        PayoutDesk desk = Check.told("cover 3;raise 3;closed 3;");
        Check.tell(desk, text);
        Check.due("closed of " + text, desk.count(5), closed);
        Check.due("cover of " + text, desk.count(6), cover);
        Check.due("raise of " + text, desk.count(7), raise);
    }

    private static void namesAreOtherWords() {
        Check.sentence("Terms 1", "A NAME is a WORD but person, insider, trust, account, balance, high, from, to, loan, due, "
                + "cover, raise, closed.");
        for (int i = 0; i < 13; i++) {
            String word = TOKENS[i];
            Check.bad("person ^" + word + ";", 1);
            Check.bad("trust ^" + word + ";", 1);
            Check.bad("account ^" + word + " balance 5;", 1);
            Check.bad("high ^" + word + " 5 from 1 to 2;", 1);
            Check.bad("loan ^" + word + " 5 due 1;", 1);
            Check.bad("person a;trust t ^" + word + " 1;", 1);
            Check.bad("person a;account x balance 5 a 1 ^" + word + " 1;", 1);
            // A letter less, and one more where there is room: NAMES.
            Check.good("person " + word.substring(1) + ";person " + word.substring(0, word.length() - 1) + ";", 2);
            Check.good("person " + (word.length() < 8 ? word + "s" : "s") + ";", 1);
        }
    }

    private static void noNameTwice() {
        Check.sentence("Terms 1", "No NAME is given twice.");
        String ahead = "person a;trust t;account x balance 5 a 1;";
        for (String name : new String[] {"a", "t", "x"}) {
            Check.bad(ahead + "person ^" + name + ";", 2);
            Check.bad(ahead + "trust ^" + name + ";", 2);
            Check.bad(ahead + "account ^" + name + " balance 5 a 1;", 2);
        }
        Check.good(ahead + "person b;trust s;account y balance 5 a 1;", 6);
        // The last of as many as there may be is looked at, too.
        Check.bad(Check.several("person p", 12, ";") + "trust ^pl;", 2);
        Check.bad(Check.several("trust t", 5, ";") + "person ^te;", 2);
        Check.bad("person a;" + Check.several("account x", 10, " balance 5 a 1;") + "trust ^xj;", 2);
    }

    private static void asManyAsThereMayBe() {
        Check.sentence("Terms 1", "At most 12 PERSONS, 5 TRUSTS, 10 ACCOUNTS, 6 highs, 8 loans");
        Check.good(Check.several("person p", 12, ";"), 12);
        Check.bad(Check.several("person p", 12, ";") + "^person pm;", 5);
        Check.good(Check.several("trust t", 5, ";"), 5);
        Check.bad(Check.several("trust t", 5, ";") + "^trust tf;", 5);
        String accounts = "person a;" + Check.several("account x", 10, " balance 5 a 1;");
        Check.good(accounts, 11);
        Check.bad(accounts + "^account xk balance 5 a 1;", 5);
        Check.good(AHEAD + "high x 5 from 1 to 2;".repeat(6), 9);
        Check.bad(AHEAD + "high x 5 from 1 to 2;".repeat(6) + "^high x 5 from 1 to 2;", 5);
        Check.good(AHEAD + "loan a 5 due 1;".repeat(8), 11);
        Check.bad(AHEAD + "loan a 5 due 1;".repeat(8) + "^loan a 5 due 1;", 5);
    }

    private static void numberedAsTold() {
        Check.sentence("Terms 1", ", numbered as told.");
        PayoutDesk desk = Check.told("trust ta;person q;trust tb q 2;account x balance 8 q 1;person d 4;account y balance 9 d 1;"
                + "person m;");
        int[] letters = {16, 3, 12};
        for (int p = 0; p < 3; p++) {
            Check.due("first letter", desk.person(p, 6), letters[p]);
        }
        Check.due("PARTS of the first", desk.trust(0, 0), 0);
        Check.due("PARTS of the second", desk.trust(1, 0), 1);
        Check.due("balance of the first", desk.account(0, 0), 8);
        Check.due("balance of the second", desk.account(1, 0), 9);
    }

    private static void amounts() {
        Check.sentence("Terms 1", "Amounts: cents, 0 to 9999999.");
        PayoutDesk least = Check.told("person a;account x balance 0 a 1;high x 0 from 0 to 0;loan a 0 due 0;cover 0;raise 0;");
        Check.answers("view", w -> least.view(0, w), 0, 0, 0, 0, 0, 0, 0, 0, 0);
        PayoutDesk most = Check.told("person a;account x balance 9999999 a 1;account y balance 9999999 a 1;"
                + "high x 9999999 from 0 to 0;loan a 9999999 due 0;cover 9999999;raise 9999999;");
        Check.answers("view", w -> most.view(0, w), 19999998, 9999999, 9999999, 9999999, 9999999, 19999998, 9999999, 0, 0);
        Check.bad("person a;account x balance ^10000000 a 1;", 1);
        Check.bad(AHEAD + "high x ^10000000 from 0 to 0;", 1);
        Check.bad(AHEAD + "loan a ^10000000 due 0;", 1);
        Check.bad("cover ^10000000;", 1);
        Check.bad("raise ^10000000;", 1);
    }

    private static void allThatThereMayBe() {
        StringBuilder text = new StringBuilder();
        text.append(Check.several("person ", 12, " 1;"));
        text.append("trust ta a 9;trust tb ta 1;trust tc tb 1;trust td tc 1;trust te td 1;");
        text.append(Check.several("account x", 10, " balance 100 te 1;"));
        text.append("high xa 5 from 1 to 2;".repeat(6));
        text.append("loan a 5 due 1;".repeat(8));
        text.append("cover 5;raise 5;closed 5;");
        PayoutDesk desk = new PayoutDesk();
        Check.due("bytes", Check.feed(desk, text.toString()) <= 1000, true);
        Check.due("all LINES", desk.book(text.length()), 44);
        Check.answers("count", desk::count, 12, 5, 10, 6, 8, 5, 5, 5, 0, 0, 0, 0);
        Check.due("trust(4, 3)", desk.trust(4, 3), 5);
        Check.due("HAS", desk.all(0), 1000);
        Check.due("bestDay(0, 999, 1)", desk.bestDay(0, 999, 1), 1);
        Check.due("bestDay(0, 999, 0)", desk.bestDay(0, 999, 0), 0);
        Check.due("bestDay(1, 999, 0)", desk.bestDay(1, 999, 0), 3);
        Check.due("view(0, 1)", desk.view(0, 1), 40);
        Check.due("view(0, 4)", desk.view(0, 4), 0);
        Check.due("ways(9, 0)", desk.ways(9, 0), 1);
        for (String word : new String[] {"person", "trust", "account", "high", "loan"}) {
            Check.bad(text + "^" + word + " ", 5);
        }
        for (String word : new String[] {"cover", "raise", "closed"}) {
            Check.bad(text + "^" + word + " ", 2);
        }
    }
}
