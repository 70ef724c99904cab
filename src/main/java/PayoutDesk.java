import java.util.NoSuchElementException;

/**
 * Deposit payout desk: a closed bank's accounts joined into one view per depositor, joint shares,
 * trusts and temporary high balances, cover paid, the rest ranked.
 *
 * <p>Every array and object is made in the constructors and used again, so no call makes any.
 */
public final class PayoutDesk {
    public static final int NONE = -1;

    private static final int NO_ESTATE = -2;
    private static final int BYTES_OF_A_FEED = 20;
    private static final int TAPE_BYTES = 1000;

    private static final int MOST_PERSONS = 12;
    private static final int MOST_TRUSTS = 5;
    private static final int MOST_ACCOUNTS = 10;
    private static final int MOST_HIGHS = 6;
    private static final int MOST_LOANS = 8;
    private static final int MOST_LINES =
            MOST_PERSONS + MOST_TRUSTS + MOST_ACCOUNTS + MOST_HIGHS + MOST_LOANS + 3;
    private static final int MARKS_OF_A_PERSON = 3;
    private static final int MOST_MARKS = MOST_PERSONS * MARKS_OF_A_PERSON;
    private static final int MOST_PARTS = 5;
    private static final int MOST_JOINS = 30;
    private static final int MOST_UNDONE = 16;
    private static final int KEEPS = 3;

    private static final int GREATEST_MARK = 9999;
    private static final int GREATEST_WEIGHT = 99;
    private static final int LAST_DAY = 999;
    private static final int MOST_CENTS = 9999999;
    private static final int MOST_MONEY = 99999999;

    // A NAME's number tells what it names: PERSONS first, then TRUSTS, then ACCOUNTS.
    private static final int FIRST_TRUST = MOST_PERSONS;
    private static final int FIRST_ACCOUNT = FIRST_TRUST + MOST_TRUSTS;
    private static final int ALL_NAMES = FIRST_ACCOUNT + MOST_ACCOUNTS;

    private static final int CLOSED = 0;
    private static final int COVER = 1;
    private static final int RAISE = 2;
    private static final int SETTINGS = 3;
    private static final int COVER_WITHOUT = 100000;
    private static final int RAISE_WITHOUT = 50000;

    private final Reader reader = new Reader();
    private final Tape tape = reader.tape;
    private final History history = new History();
    private final Shares shares = new Shares();
    private final State now = new State();
    private final Ledger ledger = new Ledger();
    // What else would be is reckoned on these two, so that nothing has to be put back.
    private final State trial = new State();
    private final Ledger trialLedger = new Ledger();
    private Book told = new Book();
    private boolean hasBook;

    public PayoutDesk() {
        hasBook = false;
    }

    public int feed(int a, int b, int c, int d, int e) {
        if (tape.length + BYTES_OF_A_FEED > TAPE_BYTES) {
            return NONE;
        }
        tape.append(a);
        tape.append(b);
        tape.append(c);
        tape.append(d);
        tape.append(e);
        return tape.length;
    }

    public int book(int n) {
        if (n < 0 || n > tape.length) {
            return NONE;
        }
        int answer = reader.read(n);
        tape.length = 0;
        if (answer > 0) {
            told = reader.trade(told);
            hasBook = true;
            now.begin(told);
            history.forget();
            refresh();
        }
        return answer;
    }

    public int person(int person, int what) {
        if (!isPerson(person)) {
            return NONE;
        }
        Person asked = told.persons[person];
        switch (what) {
            case 0: return asked.markCount;
            case 1:
            case 2:
            case 3: return what <= asked.markCount ? asked.marks[what - 1] : 0;
            case 4: return asked.insider ? 1 : 0;
            case 5: return ledger.ties.depositorOf[person];
            case 6: return asked.firstLetter;
            default: return NONE;
        }
    }

    public int trust(int trust, int what) {
        if (trust < 0 || trust >= told.trustCount) {
            return NONE;
        }
        Group asked = told.trusts[trust];
        switch (what) {
            case 0: return asked.partCount;
            case 1: return asked.weightsTogether;
            case 2: return asked.fails ? 1 : 0;
            case 3: return asked.depth;
            default: return NONE;
        }
    }

    public int account(int account, int what) {
        if (!isAccount(account)) {
            return NONE;
        }
        Group asked = told.accounts[account];
        switch (what) {
            case 0: return now.balances[account];
            case 1: return asked.partCount;
            case 2: return asked.fails ? 1 : 0;
            case 3: return asked.personsReached();
            default: return NONE;
        }
    }

    public int share(int account, int person) throws NoSuchElementException {
        if (!isAccount(account) || !isPerson(person)) {
            throw new NoSuchElementException("no such account or person");
        }
        return shares.ofAccount[account][person];
    }

    public int who(int depositor) {
        return isDepositor(depositor) ? ledger.ties.personsOf[depositor] : NONE;
    }

    public long view(int depositor, int what) {
        if (!isDepositor(depositor)) {
            return NONE;
        }
        switch (what) {
            case 0: return ledger.has[depositor];
            case 1: return ledger.owes[depositor];
            case 2: return ledger.setOff(depositor);
            case 3: return ledger.net(depositor);
            case 4: return ledger.high[depositor];
            case 5: return ledger.limit(depositor, ledger.cover);
            case 6: return ledger.paid(depositor);
            case 7: return ledger.claim(depositor);
            case 8: return ledger.insider[depositor] ? 1 : 0;
            default: return NONE;
        }
    }

    public long all(int what) {
        switch (what) {
            case 0: return ledger.hasTogether();
            case 1: return ledger.setOffTogether();
            case 2: return ledger.paidTogether();
            case 3: return ledger.claimsOf(false) + ledger.claimsOf(true);
            case 4: return frozenBalances();
            case 5: return ledger.ties.depositors;
            case 6: return ledger.claimants();
            default: return NONE;
        }
    }

    public int ranked(int k) {
        for (int d = 0; d < ledger.ties.depositors; d++) {
            if (ledger.aheadOf(d) == k) {
                return d;
            }
        }
        return NONE;
    }

    public long estate(int money, int depositor) {
        if (money < 0 || money > MOST_MONEY) {
            return NO_ESTATE;
        }
        if (depositor == NONE) {
            return Math.min(money, ledger.paidTogether());
        }
        return isDepositor(depositor) ? ledger.fromEstate(money, depositor) : NO_ESTATE;
    }

    public long enough(int rank) {
        long fund = ledger.paidTogether();
        long others = ledger.claimsOf(false);
        long insiders = ledger.claimsOf(true);
        switch (rank) {
            case 0: return fund;
            case 1: return others == 0 ? 0 : fund + others;
            case 2: return insiders == 0 ? 0 : fund + others + insiders;
            default: return NONE;
        }
    }

    // ---- what else would be

    public long onDay(int day) {
        if (!isDay(day)) {
            return NONE;
        }
        trial.copyFrom(now);
        trialLedger.ties.reckon(told, trial);
        return paidOn(day);
    }

    public int bestDay(int from, int to, int what) {
        if (!isDay(from) || !isDay(to) || to < from || what < 0 || what > 1) {
            return NONE;
        }
        trial.copyFrom(now);
        trialLedger.ties.reckon(told, trial);
        // Only where a high or a loan begins or ends to count can PAID change: no other day is first.
        int best = from;
        for (int h = 0; h < told.highCount; h++) {
            best = betterDay(best, told.highs[h].first, from, to, what);
            best = betterDay(best, told.highs[h].last + 1, from, to, what);
        }
        for (int l = 0; l < told.loanCount; l++) {
            best = betterDay(best, told.loans[l].first, from, to, what);
        }
        return best;
    }

    public long coverFor(int hundredths) {
        if (hundredths < 1 || hundredths > 100) {
            return NONE;
        }
        long wanted = (ledger.netTogether() * hundredths + 99) / 100;
        return ledger.leastCover(wanted);
    }

    public long markless(int mark) throws NoSuchElementException {
        int index = told.indexOfMark(mark);
        if (index == NONE) {
            throw new NoSuchElementException("nobody has this mark");
        }
        trial.copyFrom(now);
        trial.leaveOut(index, !now.isLeftOut(index));
        return gainOfTrial();
    }

    public long joining(int person, int other) throws NoSuchElementException {
        if (!areTwo(person, other)) {
            throw new NoSuchElementException("no two persons");
        }
        trial.copyFrom(now);
        trial.addJoin(person, other);
        return gainOfTrial();
    }

    public int apart(int person, int other) {
        return isPerson(person) && isPerson(other) ? ledger.ties.steps(person, other) : NONE;
    }

    public int ways(int account, int person) {
        return isAccount(account) && isPerson(person) ? told.accounts[account].ways[person] : NONE;
    }

    // ---- acts

    public int balance(int account, int cents) {
        if (!isAccount(account) || cents < 0 || cents > MOST_CENTS) {
            return NONE;
        }
        int was = now.balances[account];
        history.remember(now);
        now.balances[account] = cents;
        refresh();
        return was;
    }

    public int join(int person, int other) {
        if (!areTwo(person, other) || now.joinCount >= MOST_JOINS) {
            return NONE;
        }
        history.remember(now);
        now.addJoin(person, other);
        refresh();
        return ledger.ties.depositors;
    }

    public int split(int person) {
        if (!isPerson(person)) {
            return NONE;
        }
        int latest = now.latestJoinOf(person);
        if (latest == NONE) {
            return NONE;
        }
        int other = now.partner(latest, person);
        history.remember(now);
        now.removeJoin(latest);
        refresh();
        return other;
    }

    public int tell(int what, int v) {
        if (!hasBook || what < 0 || what >= SETTINGS || v < 0 || v > greatestOf(what)) {
            return NONE;
        }
        int was = now.settings[what];
        history.remember(now);
        now.settings[what] = v;
        refresh();
        return was;
    }

    public boolean mark(int mark, boolean out) {
        int index = told.indexOfMark(mark);
        if (index == NONE) {
            return false;
        }
        history.remember(now);
        now.leaveOut(index, out);
        refresh();
        return true;
    }

    public int undo() {
        if (!history.takeBack(now)) {
            return NONE;
        }
        refresh();
        return history.undoable;
    }

    public boolean keep(int k, boolean back) {
        if (!hasBook || k < 0 || k >= KEEPS) {
            return false;
        }
        if (!back) {
            history.layKeep(k, now);
            return true;
        }
        if (!history.goBackTo(k, now)) {
            return false;
        }
        refresh();
        return true;
    }

    public int count(int what) {
        switch (what) {
            case 0: return told.personCount;
            case 1: return told.trustCount;
            case 2: return told.accountCount;
            case 3: return told.highCount;
            case 4: return told.loanCount;
            case 5: return now.settings[CLOSED];
            case 6: return now.settings[COVER];
            case 7: return now.settings[RAISE];
            case 8: return now.joinCount;
            case 9: return Long.bitCount(now.leftOut);
            case 10: return history.undoable;
            case 11: return tape.length;
            default: return NONE;
        }
    }

    private void refresh() {
        shares.reckon(told, now);
        ledger.ties.reckon(told, now);
        ledger.sumUp(told, now, shares);
    }

    private boolean isPerson(int person) {
        return person >= 0 && person < told.personCount;
    }

    private boolean areTwo(int person, int other) {
        return isPerson(person) && isPerson(other) && person != other;
    }

    private boolean isAccount(int account) {
        return account >= 0 && account < told.accountCount;
    }

    private boolean isDepositor(int depositor) {
        return depositor >= 0 && depositor < ledger.ties.depositors;
    }

    private static boolean isDay(int day) {
        return day >= 0 && day <= LAST_DAY;
    }

    private static int greatestOf(int setting) {
        return setting == CLOSED ? LAST_DAY : MOST_CENTS;
    }

    private long frozenBalances() {
        long together = 0;
        for (int a = 0; a < told.accountCount; a++) {
            if (told.accounts[a].fails) {
                together += now.balances[a];
            }
        }
        return together;
    }

    private long paidOn(int day) {
        trial.settings[CLOSED] = day;
        trialLedger.sumUp(told, trial, shares);
        return trialLedger.paidTogether();
    }

    private int betterDay(int best, int day, int from, int to, int what) {
        if (day < from || day > to) {
            return best;
        }
        long gain = paidOn(day) - paidOn(best);
        if (what == 0) {
            gain = -gain;
        }
        return gain > 0 || (gain == 0 && day < best) ? day : best;
    }

    private long gainOfTrial() {
        trialLedger.ties.reckon(told, trial);
        trialLedger.sumUp(told, trial, shares);
        return trialLedger.paidTogether() - ledger.paidTogether();
    }

    /** THE TAPE, and the TOKENS of its first bytes, one at a time. */
    private static final class Tape {
        static final int END = 0;
        static final int WORD = 1;
        static final int NUMBER = 2;
        static final int SEMICOLON = 3;
        static final int NO_TOKEN = 4;
        private static final int LONGEST_WORD = 8;
        private static final int LONGEST_NUMBER = 7;

        private final byte[] bytes = new byte[TAPE_BYTES];
        private int length;
        private int end;
        private int next;
        private int kind;
        private int place;
        // The byte at its place.
        private int first;
        private int number;
        // The letters, eight bits each, the last one lowest: like WORDS are like numbers.
        private long word;

        void append(int four) {
            for (int shift = 24; shift >= 0; shift -= 8) {
                if (length < bytes.length) {
                    bytes[length] = (byte) (four >>> shift);
                    length++;
                }
            }
        }

        void open(int n) {
            end = Math.min(n, bytes.length);
            next = 0;
            advance();
        }

        void advance() {
            while (next < end && (bytes[next] == 32 || bytes[next] == 10)) {
                next++;
            }
            place = next;
            if (place >= end) {
                kind = END;
                return;
            }
            first = bytes[place];
            if (first >= 'a' && first <= 'z') {
                takeWord();
            } else if (first >= '0' && first <= '9') {
                takeNumber();
            } else if (first == ';') {
                kind = SEMICOLON;
                next++;
            } else {
                kind = NO_TOKEN;
            }
        }

        private void takeWord() {
            word = 0;
            while (next < end && bytes[next] >= 'a' && bytes[next] <= 'z') {
                word = word << 8 | bytes[next];
                next++;
            }
            kind = next - place <= LONGEST_WORD ? WORD : NO_TOKEN;
        }

        private void takeNumber() {
            number = 0;
            while (next < end && bytes[next] >= '0' && bytes[next] <= '9') {
                number = number * 10 + (bytes[next] - '0');
                next++;
            }
            kind = next - place <= LONGEST_NUMBER ? NUMBER : NO_TOKEN;
        }
    }

    /** Reads a BOOK; at each TOKEN it looks for the FAULTS in their order, so the first found is due. */
    private static final class Reader {
        private static final int NO_BOOK = 1;
        private static final int TWICE = 2;
        private static final int NOT_TOLD = 3;
        private static final int OUT_OF_BOUNDS = 4;
        private static final int TOO_MANY = 5;

        // The WORDS that are no NAMES, as Tape packs their letters.
        private static final long PERSON = 0x706572736f6eL;
        private static final long INSIDER = 0x696e7369646572L;
        private static final long TRUST = 0x7472757374L;
        private static final long ACCOUNT = 0x6163636f756e74L;
        private static final long BALANCE = 0x62616c616e6365L;
        private static final long HIGH = 0x68696768L;
        private static final long FROM = 0x66726f6dL;
        private static final long TO = 0x746fL;
        private static final long LOAN = 0x6c6f616eL;
        private static final long DUE = 0x647565L;
        private static final long COVER_WORD = 0x636f766572L;
        private static final long RAISE_WORD = 0x7261697365L;
        private static final long CLOSED_WORD = 0x636c6f736564L;

        private final Tape tape = new Tape();
        private Book book = new Book();
        private int fault;

        /** The BOOK that was read, for an old one: the next is read into that, so two are enough. */
        Book trade(Book old) {
            Book read = book;
            book = old;
            return read;
        }

        /** How many LINES the first n bytes have, or -2 less the FAULT. */
        int read(int n) {
            book.clear();
            fault = 0;
            tape.open(n);
            int lines = 0;
            boolean good = readLine();
            while (good && lines <= MOST_LINES) {
                lines++;
                if (tape.kind == Tape.END) {
                    book.settleUntold();
                    return lines;
                }
                good = readLine();
            }
            return -2 - fault;
        }

        private boolean fail(int kind) {
            fault = 8 * tape.place + kind;
            return false;
        }

        private boolean readLine() {
            if (at(PERSON)) {
                return readPerson();
            }
            if (at(TRUST)) {
                return readTrust();
            }
            if (at(ACCOUNT)) {
                return readAccount();
            }
            if (at(HIGH)) {
                return readHigh();
            }
            if (at(LOAN)) {
                return readLoan();
            }
            if (at(COVER_WORD)) {
                return readSetting(COVER);
            }
            if (at(RAISE_WORD)) {
                return readSetting(RAISE);
            }
            return at(CLOSED_WORD) ? readSetting(CLOSED) : fail(NO_BOOK);
        }

        private boolean readPerson() {
            if (book.personCount >= MOST_PERSONS) {
                return fail(TOO_MANY);
            }
            Person person = book.persons[book.personCount];
            tape.advance();
            if (!atNewName()) {
                return false;
            }
            person.begin(tape.word, tape.first - 'a');
            tape.advance();
            if (!readMarks(person)) {
                return false;
            }
            person.insider = at(INSIDER);
            if (person.insider) {
                tape.advance();
            }
            if (!passEnd()) {
                return false;
            }
            book.addPerson();
            return true;
        }

        private boolean readMarks(Person person) {
            for (int i = 0; i <= MARKS_OF_A_PERSON && tape.kind == Tape.NUMBER; i++) {
                if (person.hasMark(tape.number)) {
                    return fail(TWICE);
                }
                int mark = takeNumberIn(1, GREATEST_MARK, person.markCount < MARKS_OF_A_PERSON);
                if (mark == NONE) {
                    return false;
                }
                person.addMark(mark);
            }
            return true;
        }

        private boolean readTrust() {
            if (book.trustCount >= MOST_TRUSTS) {
                return fail(TOO_MANY);
            }
            Group trust = book.trusts[book.trustCount];
            tape.advance();
            if (!atNewName()) {
                return false;
            }
            trust.begin(tape.word);
            tape.advance();
            if (!readParts(trust) || !passEnd()) {
                return false;
            }
            trust.settle(book.trusts);
            book.trustCount++;
            return true;
        }

        private boolean readAccount() {
            if (book.accountCount >= MOST_ACCOUNTS) {
                return fail(TOO_MANY);
            }
            Group account = book.accounts[book.accountCount];
            tape.advance();
            if (!atNewName()) {
                return false;
            }
            account.begin(tape.word);
            tape.advance();
            if (!pass(BALANCE)) {
                return false;
            }
            int cents = takeNumberIn(0, MOST_CENTS, true);
            if (cents == NONE || !readParts(account)) {
                return false;
            }
            if (account.partCount == 0) {
                return fail(NO_BOOK);
            }
            if (!passEnd()) {
                return false;
            }
            account.settle(book.trusts);
            book.balances[book.accountCount] = cents;
            book.accountCount++;
            return true;
        }

        private boolean readParts(Group group) {
            for (int i = 0; i <= MOST_PARTS && atName(); i++) {
                int part = book.find(tape.word);
                if (part != NONE && group.hasPart(part)) {
                    return fail(TWICE);
                }
                if (part == NONE || part >= FIRST_ACCOUNT) {
                    return fail(NOT_TOLD);
                }
                if (group.partCount >= MOST_PARTS) {
                    return fail(TOO_MANY);
                }
                tape.advance();
                int weight = takeNumberIn(0, GREATEST_WEIGHT, true);
                if (weight == NONE) {
                    return false;
                }
                group.addPart(part, weight);
            }
            return true;
        }

        private boolean readHigh() {
            if (book.highCount >= MOST_HIGHS) {
                return fail(TOO_MANY);
            }
            tape.advance();
            int account = takeTold(FIRST_ACCOUNT, ALL_NAMES);
            if (account == NONE) {
                return false;
            }
            int amount = takeNumberIn(0, MOST_CENTS, true);
            if (amount == NONE || !pass(FROM)) {
                return false;
            }
            int first = takeNumberIn(0, LAST_DAY, true);
            if (first == NONE || !pass(TO)) {
                return false;
            }
            int last = takeNumberIn(first, LAST_DAY, true);
            if (last == NONE || !passEnd()) {
                return false;
            }
            book.highs[book.highCount].setTo(account, amount, first, last);
            book.highCount++;
            return true;
        }

        private boolean readLoan() {
            if (book.loanCount >= MOST_LOANS) {
                return fail(TOO_MANY);
            }
            tape.advance();
            int person = takeTold(0, FIRST_TRUST);
            if (person == NONE) {
                return false;
            }
            int amount = takeNumberIn(0, MOST_CENTS, true);
            if (amount == NONE || !pass(DUE)) {
                return false;
            }
            int due = takeNumberIn(0, LAST_DAY, true);
            if (due == NONE || !passEnd()) {
                return false;
            }
            book.loans[book.loanCount].setTo(person, amount, due, LAST_DAY);
            book.loanCount++;
            return true;
        }

        private boolean readSetting(int setting) {
            if (book.settings[setting] != NONE) {
                return fail(TWICE);
            }
            tape.advance();
            int value = takeNumberIn(0, greatestOf(setting), true);
            if (value == NONE || !passEnd()) {
                return false;
            }
            book.settings[setting] = value;
            return true;
        }

        private boolean at(long word) {
            return tape.kind == Tape.WORD && tape.word == word;
        }

        private boolean atName() {
            return tape.kind == Tape.WORD && !isTaken(tape.word);
        }

        private boolean atNewName() {
            if (!atName()) {
                return fail(NO_BOOK);
            }
            return book.find(tape.word) == NONE || fail(TWICE);
        }

        private boolean pass(long word) {
            if (!at(word)) {
                return fail(NO_BOOK);
            }
            tape.advance();
            return true;
        }

        private boolean passEnd() {
            if (tape.kind != Tape.SEMICOLON) {
                return fail(NO_BOOK);
            }
            tape.advance();
            return true;
        }

        /** The NUMBER that is due here, or NONE: a FAULT, also if there is no room for one more. */
        private int takeNumberIn(int least, int most, boolean room) {
            if (tape.kind != Tape.NUMBER) {
                fail(NO_BOOK);
                return NONE;
            }
            if (tape.number < least || tape.number > most) {
                fail(OUT_OF_BOUNDS);
                return NONE;
            }
            if (!room) {
                fail(TOO_MANY);
                return NONE;
            }
            int number = tape.number;
            tape.advance();
            return number;
        }

        /** What the NAME that is due here names, numbered from the first of its kind, or NONE: a FAULT. */
        private int takeTold(int first, int behindLast) {
            if (!atName()) {
                fail(NO_BOOK);
                return NONE;
            }
            int named = book.find(tape.word);
            if (named < first || named >= behindLast) {
                fail(NOT_TOLD);
                return NONE;
            }
            tape.advance();
            return named - first;
        }

        private static boolean isTaken(long word) {
            return word == PERSON || word == INSIDER || word == TRUST || word == ACCOUNT
                    || word == BALANCE || word == HIGH || word == FROM || word == TO
                    || word == LOAN || word == DUE || word == COVER_WORD || word == RAISE_WORD
                    || word == CLOSED_WORD;
        }
    }

    /** A PERSON as told. */
    private static final class Person {
        private final int[] marks = new int[MARKS_OF_A_PERSON];
        private int markCount;
        private long name;
        private int firstLetter;
        private boolean insider;

        void begin(long newName, int letter) {
            name = newName;
            firstLetter = letter;
            markCount = 0;
        }

        boolean hasMark(int mark) {
            for (int i = 0; i < markCount; i++) {
                if (marks[i] == mark) {
                    return true;
                }
            }
            return false;
        }

        void addMark(int mark) {
            if (markCount < marks.length) {
                marks[markCount] = mark;
                markCount++;
            }
        }
    }

    /** The PARTS of a TRUST or of an ACCOUNT, each by its NAME's number. */
    private static final class Group {
        private final int[] parts = new int[MOST_PARTS];
        private final int[] weights = new int[MOST_PARTS];
        private final int[] ways = new int[MOST_PERSONS];
        private int partCount;
        private long name;
        private int weightsTogether;
        private int depth;
        private boolean fails;

        void begin(long newName) {
            name = newName;
            partCount = 0;
        }

        boolean hasPart(int part) {
            for (int i = 0; i < partCount; i++) {
                if (parts[i] == part) {
                    return true;
                }
            }
            return false;
        }

        void addPart(int part, int weight) {
            if (partCount < parts.length) {
                parts[partCount] = part;
                weights[partCount] = weight;
                partCount++;
            }
        }

        /** Its TRUSTS are told ahead, so what holds of them is known when its LINE ends. */
        void settle(Group[] trusts) {
            weightsTogether = 0;
            depth = 1;
            fails = false;
            for (int p = 0; p < ways.length; p++) {
                ways[p] = 0;
            }
            for (int i = 0; i < partCount; i++) {
                weightsTogether += weights[i];
                int part = parts[i];
                if (part >= 0 && part < ways.length) {
                    ways[part]++;
                } else if (part >= FIRST_TRUST && part - FIRST_TRUST < trusts.length) {
                    goThrough(trusts[part - FIRST_TRUST]);
                }
            }
            if (weightsTogether == 0) {
                fails = true;
            }
        }

        private void goThrough(Group trust) {
            depth = Math.max(depth, trust.depth + 1);
            fails = fails || trust.fails;
            for (int p = 0; p < ways.length; p++) {
                ways[p] += trust.ways[p];
            }
        }

        int personsReached() {
            int reached = 0;
            for (int p = 0; p < ways.length; p++) {
                if (ways[p] > 0) {
                    reached++;
                }
            }
            return reached;
        }
    }

    /** An amount that counts for some days: a high of an ACCOUNT, or a PERSON's loan from when it is due. */
    private static final class Dated {
        private int of;
        private int amount;
        private int first;
        private int last;

        void setTo(int newOf, int newAmount, int newFirst, int newLast) {
            of = newOf;
            amount = newAmount;
            first = newFirst;
            last = newLast;
        }

        boolean countsOn(int day) {
            return first <= day && day <= last;
        }
    }

    /** A BOOK as told: no ACT changes it. */
    private static final class Book {
        private final Person[] persons = new Person[MOST_PERSONS];
        private final Group[] trusts = new Group[MOST_TRUSTS];
        private final Group[] accounts = new Group[MOST_ACCOUNTS];
        private final int[] balances = new int[MOST_ACCOUNTS];
        private final Dated[] highs = new Dated[MOST_HIGHS];
        private final Dated[] loans = new Dated[MOST_LOANS];
        private final int[] settings = new int[SETTINGS];
        private final int[] marks = new int[MOST_MARKS];
        private final int[] holders = new int[MOST_MARKS];
        private int personCount;
        private int trustCount;
        private int accountCount;
        private int highCount;
        private int loanCount;
        private int markCount;

        Book() {
            for (int i = 0; i < persons.length; i++) {
                persons[i] = new Person();
            }
            for (int i = 0; i < trusts.length; i++) {
                trusts[i] = new Group();
            }
            for (int i = 0; i < accounts.length; i++) {
                accounts[i] = new Group();
            }
            for (int i = 0; i < highs.length; i++) {
                highs[i] = new Dated();
            }
            for (int i = 0; i < loans.length; i++) {
                loans[i] = new Dated();
            }
        }

        void clear() {
            personCount = 0;
            trustCount = 0;
            accountCount = 0;
            highCount = 0;
            loanCount = 0;
            markCount = 0;
            settings[CLOSED] = NONE;
            settings[COVER] = NONE;
            settings[RAISE] = NONE;
        }

        void settleUntold() {
            if (settings[CLOSED] == NONE) {
                settings[CLOSED] = 0;
            }
            if (settings[COVER] == NONE) {
                settings[COVER] = COVER_WITHOUT;
            }
            if (settings[RAISE] == NONE) {
                settings[RAISE] = RAISE_WITHOUT;
            }
        }

        /** The PERSON behind the last one, whose LINE is read, is one of the BOOK from now on. */
        void addPerson() {
            if (personCount >= persons.length) {
                return;
            }
            Person person = persons[personCount];
            for (int i = 0; i < person.markCount; i++) {
                addHolder(person.marks[i], personCount);
            }
            personCount++;
        }

        private void addHolder(int mark, int person) {
            int index = indexOfMark(mark);
            if (index == NONE && markCount < marks.length) {
                index = markCount;
                marks[index] = mark;
                holders[index] = 0;
                markCount++;
            }
            if (index != NONE) {
                holders[index] |= 1 << person;
            }
        }

        int indexOfMark(int mark) {
            for (int i = 0; i < markCount; i++) {
                if (marks[i] == mark) {
                    return i;
                }
            }
            return NONE;
        }

        /** The number of a NAME, or NONE. */
        int find(long name) {
            for (int i = 0; i < personCount; i++) {
                if (persons[i].name == name) {
                    return i;
                }
            }
            for (int i = 0; i < trustCount; i++) {
                if (trusts[i].name == name) {
                    return FIRST_TRUST + i;
                }
            }
            for (int i = 0; i < accountCount; i++) {
                if (accounts[i].name == name) {
                    return FIRST_ACCOUNT + i;
                }
            }
            return NONE;
        }
    }

    /** What ACTS change. */
    private static final class State {
        private final int[] balances = new int[MOST_ACCOUNTS];
        private final int[] settings = new int[SETTINGS];
        // One more than there may be: what one more would make of it can be asked of a full state.
        private final int[] joined = new int[MOST_JOINS + 1];
        private final int[] joinedTo = new int[MOST_JOINS + 1];
        private int joinCount;
        private long leftOut;

        State() {
            settings[COVER] = COVER_WITHOUT;
            settings[RAISE] = RAISE_WITHOUT;
        }

        void begin(Book book) {
            System.arraycopy(book.balances, 0, balances, 0, MOST_ACCOUNTS);
            System.arraycopy(book.settings, 0, settings, 0, SETTINGS);
            joinCount = 0;
            leftOut = 0;
        }

        void copyFrom(State other) {
            System.arraycopy(other.balances, 0, balances, 0, MOST_ACCOUNTS);
            System.arraycopy(other.settings, 0, settings, 0, SETTINGS);
            System.arraycopy(other.joined, 0, joined, 0, MOST_JOINS + 1);
            System.arraycopy(other.joinedTo, 0, joinedTo, 0, MOST_JOINS + 1);
            joinCount = other.joinCount;
            leftOut = other.leftOut;
        }

        int balanceOf(int account) {
            return account >= 0 && account < balances.length ? balances[account] : 0;
        }

        boolean isLeftOut(int index) {
            return (leftOut >>> index & 1) != 0;
        }

        void leaveOut(int index, boolean out) {
            long bit = 1L << index;
            leftOut = out ? leftOut | bit : leftOut & ~bit;
        }

        void addJoin(int person, int other) {
            if (joinCount < joined.length) {
                joined[joinCount] = person;
                joinedTo[joinCount] = other;
                joinCount++;
            }
        }

        int latestJoinOf(int person) {
            for (int i = joinCount - 1; i >= 0; i--) {
                if (joined[i] == person || joinedTo[i] == person) {
                    return i;
                }
            }
            return NONE;
        }

        int partner(int index, int person) {
            if (index < 0 || index >= joinCount) {
                return NONE;
            }
            return joined[index] == person ? joinedTo[index] : joined[index];
        }

        void removeJoin(int index) {
            if (index < 0 || index >= joinCount) {
                return;
            }
            joinCount--;
            for (int i = index; i < joinCount; i++) {
                joined[i] = joined[i + 1];
                joinedTo[i] = joinedTo[i + 1];
            }
        }
    }

    /** The states ahead of the latest ACTS, in a ring, and the KEEPS. */
    private static final class History {
        private final State[] past = new State[MOST_UNDONE];
        private final State[] kept = new State[KEEPS];
        private final boolean[] isKept = new boolean[KEEPS];
        private int next;
        private int undoable;

        History() {
            for (int i = 0; i < past.length; i++) {
                past[i] = new State();
            }
            for (int i = 0; i < kept.length; i++) {
                kept[i] = new State();
            }
        }

        void forget() {
            undoable = 0;
            for (int i = 0; i < isKept.length; i++) {
                isKept[i] = false;
            }
        }

        void remember(State now) {
            if (next < 0 || next >= past.length) {
                next = 0;
            }
            past[next].copyFrom(now);
            next++;
            undoable = Math.min(undoable + 1, past.length);
        }

        boolean takeBack(State now) {
            if (undoable == 0) {
                return false;
            }
            if (next <= 0 || next > past.length) {
                next = past.length;
            }
            next--;
            now.copyFrom(past[next]);
            undoable--;
            return true;
        }

        void layKeep(int k, State now) {
            if (k >= 0 && k < kept.length) {
                kept[k].copyFrom(now);
                isKept[k] = true;
            }
        }

        boolean goBackTo(int k, State now) {
            if (k < 0 || k >= kept.length || !isKept[k]) {
                return false;
            }
            now.copyFrom(kept[k]);
            undoable = 0;
            return true;
        }
    }

    /** What each PERSON gets of each ACCOUNT's balance, and of each high, whether or not it counts. */
    private static final class Shares {
        private final int[][] ofAccount = new int[MOST_ACCOUNTS][MOST_PERSONS];
        private final int[][] ofHigh = new int[MOST_HIGHS][MOST_PERSONS];

        void reckon(Book book, State state) {
            for (int a = 0; a < book.accountCount; a++) {
                shareOf(book, a, state.balances[a], ofAccount[a]);
            }
            for (int h = 0; h < book.highCount; h++) {
                Dated high = book.highs[h];
                shareOf(book, high.of, Math.min(high.amount, state.balanceOf(high.of)), ofHigh[h]);
            }
        }

        private static void shareOf(Book book, int account, int amount, int[] got) {
            for (int p = 0; p < got.length; p++) {
                got[p] = 0;
            }
            if (account < 0 || account >= book.accountCount) {
                return;
            }
            Group group = book.accounts[account];
            if (!group.fails) {
                shareOut(book.trusts, group, amount, got, 0);
            }
        }

        /** TRUSTS stand in no circle, so no way goes through more of them than there may be. */
        private static void shareOut(Group[] trusts, Group group, int amount, int[] got, int depth) {
            if (depth > MOST_TRUSTS || group.weightsTogether <= 0) {
                return;
            }
            long weights = 0;
            long ahead = 0;
            for (int i = 0; i < group.partCount; i++) {
                weights += group.weights[i];
                long upTo = amount * weights / group.weightsTogether;
                int gets = (int) (upTo - ahead);
                ahead = upTo;
                int part = group.parts[i];
                if (part >= 0 && part < got.length) {
                    got[part] += gets;
                } else if (part >= FIRST_TRUST && part - FIRST_TRUST < trusts.length) {
                    shareOut(trusts, trusts[part - FIRST_TRUST], gets, got, depth + 1);
                }
            }
        }
    }

    /** Who is one with whom, and the DEPOSITORS that come of it; PERSONS are bits. */
    private static final class Ties {
        private final int[] near = new int[MOST_PERSONS];
        private final int[] depositorOf = new int[MOST_PERSONS];
        private final int[] personsOf = new int[MOST_PERSONS];
        private int depositors;

        void reckon(Book book, State state) {
            for (int p = 0; p < near.length; p++) {
                near[p] = 1 << p;
            }
            for (int m = 0; m < book.markCount; m++) {
                if (!state.isLeftOut(m)) {
                    tie(book.holders[m]);
                }
            }
            for (int j = 0; j < state.joinCount; j++) {
                tie(1 << state.joined[j] | 1 << state.joinedTo[j]);
            }
            numberDepositors(book.personCount);
        }

        /** By how many MARKS and JOINS, at least, one PERSON comes to the other; NONE: by none. */
        int steps(int person, int other) {
            int reached = 1 << person;
            for (int steps = 0; steps < near.length; steps++) {
                if (holds(reached, other)) {
                    return steps;
                }
                reached = oneStepFrom(reached);
            }
            return NONE;
        }

        private void tie(int persons) {
            for (int p = 0; p < near.length; p++) {
                if (holds(persons, p)) {
                    near[p] |= persons;
                }
            }
        }

        private int oneStepFrom(int persons) {
            int reached = persons;
            for (int p = 0; p < near.length; p++) {
                if (holds(persons, p)) {
                    reached |= near[p];
                }
            }
            return reached;
        }

        private int allOneWith(int person) {
            int reached = 1 << person;
            for (int steps = 0; steps < near.length; steps++) {
                int wider = oneStepFrom(reached);
                if (wider == reached) {
                    return reached;
                }
                reached = wider;
            }
            return reached;
        }

        private void numberDepositors(int persons) {
            depositors = 0;
            int numbered = 0;
            for (int p = 0; p < persons && depositors < personsOf.length; p++) {
                if (!holds(numbered, p)) {
                    int group = allOneWith(p);
                    personsOf[depositors] = group;
                    giveNumber(group, depositors);
                    numbered |= group;
                    depositors++;
                }
            }
        }

        private void giveNumber(int group, int depositor) {
            for (int p = 0; p < depositorOf.length; p++) {
                if (holds(group, p)) {
                    depositorOf[p] = depositor;
                }
            }
        }

        private static boolean holds(int persons, int person) {
            return (persons >> person & 1) != 0;
        }
    }

    /** What is reckoned of each DEPOSITOR and of all together. */
    private static final class Ledger {
        // Enough to bring any long down to nothing.
        private static final int HALVINGS = 64;

        // To be reckoned ahead of the sums.
        private final Ties ties = new Ties();
        private final long[] has = new long[MOST_PERSONS];
        private final long[] owes = new long[MOST_PERSONS];
        private final long[] high = new long[MOST_PERSONS];
        private final boolean[] insider = new boolean[MOST_PERSONS];
        private long cover;
        private long raise;

        void sumUp(Book book, State state, Shares shares) {
            cover = state.settings[COVER];
            raise = state.settings[RAISE];
            for (int d = 0; d < MOST_PERSONS; d++) {
                has[d] = 0;
                owes[d] = 0;
                high[d] = 0;
                insider[d] = false;
            }
            for (int p = 0; p < book.personCount; p++) {
                int d = ties.depositorOf[p];
                if (d >= 0 && d < MOST_PERSONS) {
                    addPerson(book, state.settings[CLOSED], shares, p, d);
                }
            }
        }

        private void addPerson(Book book, int day, Shares shares, int p, int d) {
            insider[d] = insider[d] || book.persons[p].insider;
            for (int a = 0; a < book.accountCount; a++) {
                has[d] += shares.ofAccount[a][p];
            }
            for (int l = 0; l < book.loanCount; l++) {
                Dated loan = book.loans[l];
                if (loan.of == p && loan.countsOn(day)) {
                    owes[d] += loan.amount;
                }
            }
            for (int h = 0; h < book.highCount; h++) {
                if (book.highs[h].countsOn(day)) {
                    high[d] += shares.ofHigh[h][p];
                }
            }
        }

        long setOff(int d) {
            return Math.min(owes[d], has[d]);
        }

        long net(int d) {
            return Math.max(has[d] - owes[d], 0);
        }

        long limit(int d, long someCover) {
            return someCover + Math.min(high[d], raise);
        }

        long paid(int d) {
            return Math.min(net(d), limit(d, cover));
        }

        long claim(int d) {
            return net(d) - paid(d);
        }

        long hasTogether() {
            long together = 0;
            for (int d = 0; d < ties.depositors; d++) {
                together += has[d];
            }
            return together;
        }

        long setOffTogether() {
            long together = 0;
            for (int d = 0; d < ties.depositors; d++) {
                together += setOff(d);
            }
            return together;
        }

        long netTogether() {
            return hasTogether() - setOffTogether();
        }

        long paidTogether() {
            return paidUnder(cover);
        }

        private long paidUnder(long someCover) {
            long together = 0;
            for (int d = 0; d < ties.depositors; d++) {
                together += Math.min(net(d), limit(d, someCover));
            }
            return together;
        }

        int claimants() {
            int claimants = 0;
            for (int d = 0; d < ties.depositors; d++) {
                if (claim(d) > 0) {
                    claimants++;
                }
            }
            return claimants;
        }

        long claimsOf(boolean insiders) {
            return claimsAhead(ties.depositors, insiders);
        }

        private long claimsAhead(int depositor, boolean insiders) {
            long together = 0;
            for (int d = 0; d < depositor; d++) {
                if (insider[d] == insiders) {
                    together += claim(d);
                }
            }
            return together;
        }

        /** How many stand ahead of a DEPOSITOR, by CLAIM and number. */
        int aheadOf(int depositor) {
            int ahead = 0;
            long own = claim(depositor);
            for (int d = 0; d < ties.depositors; d++) {
                long other = claim(d);
                if (other > own || (other == own && d < depositor)) {
                    ahead++;
                }
            }
            return ahead;
        }

        long fromEstate(long money, int depositor) {
            boolean insiders = insider[depositor];
            long left = money - paidTogether();
            if (insiders) {
                left -= claimsOf(false);
            }
            left = Math.max(left, 0);
            long claims = claimsOf(insiders);
            long own = claim(depositor);
            if (claims <= 0 || claims <= left) {
                return own;
            }
            long ahead = claimsAhead(depositor, insiders);
            return left * (ahead + own) / claims - left * ahead / claims;
        }

        /** PAID never sinks as cover grows, and a cover as great as all NET pays all of it. */
        long leastCover(long wanted) {
            long least = 0;
            long enough = netTogether();
            for (int halving = 0; halving < HALVINGS && least < enough; halving++) {
                long middle = (least + enough) / 2;
                if (paidUnder(middle) >= wanted) {
                    enough = middle;
                } else {
                    least = middle + 1;
                }
            }
            return enough;
        }
    }
}
