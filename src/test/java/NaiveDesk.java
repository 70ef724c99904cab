import java.util.ArrayList;
import java.util.Arrays;
import java.util.HashSet;
import java.util.List;
import java.util.Set;
import java.util.TreeMap;
import java.util.TreeSet;

/**
 * The document once more, slowly and in other ways: the random runs compare the desk with this.
 * What would throw NoSuchElementException answers THROWS.
 */
final class NaiveDesk {
    static final long THROWS = Long.MIN_VALUE;
    private static final List<String> TAKEN = List.of("person", "insider", "trust", "account", "balance",
            "high", "from", "to", "loan", "due", "cover", "raise", "closed");

    /** A PERSON, TRUST or ACCOUNT. */
    private static final class Named {
        String name;
        char kind;
        int number;
        List<Integer> marks = new ArrayList<>();
        boolean insider;
        List<Named> parts = new ArrayList<>();
        List<Integer> weights = new ArrayList<>();
        int balance;
    }

    private record Dated(int of, int amount, int first, int last) {
    }

    private record Token(char kind, String text, int place) {
    }

    private static final class Book {
        List<Named> all = new ArrayList<>();
        List<Dated> highs = new ArrayList<>();
        List<Dated> loans = new ArrayList<>();
        Integer[] settings = new Integer[3];

        List<Named> of(char kind) {
            return all.stream().filter(n -> n.kind == kind).toList();
        }

        Named named(String name) {
            return all.stream().filter(n -> n.name.equals(name)).findFirst().orElse(null);
        }
    }

    private static final class State {
        int[] balances = new int[0];
        int[] settings = {0, 100000, 50000};
        List<int[]> joins = new ArrayList<>();
        Set<Integer> out = new TreeSet<>();

        State copy() {
            State copy = new State();
            copy.balances = balances.clone();
            copy.settings = settings.clone();
            copy.joins = new ArrayList<>(joins);
            copy.out = new TreeSet<>(out);
            return copy;
        }
    }

    private static final class Fault extends RuntimeException {
        private static final long serialVersionUID = 1;
        final int answer;

        Fault(int place, int kind) {
            answer = -2 - (8 * place + kind);
        }
    }

    private String tape = "";
    private Book book = null;
    private State now = new State();
    private List<State> past = new ArrayList<>();
    private State[] keeps = new State[3];

    // ---- the BOOK

    int feed(int... fives) {
        if (tape.length() > 980) {
            return -1;
        }
        StringBuilder more = new StringBuilder(tape);
        for (int five : fives) {
            more.append((char) (five >>> 24)).append((char) (five >>> 16 & 255));
            more.append((char) (five >>> 8 & 255)).append((char) (five & 255));
        }
        tape = more.toString();
        return tape.length();
    }

    int book(int n) {
        if (n < 0 || n > tape.length()) {
            return -1;
        }
        String text = tape.substring(0, n);
        tape = "";
        Book read = new Book();
        int lines;
        try {
            lines = read(text, read);
        } catch (Fault fault) {
            return fault.answer;
        }
        book = read;
        now = new State();
        now.balances = book.of('a').stream().mapToInt(a -> a.balance).toArray();
        for (int i = 0; i < 3; i++) {
            now.settings[i] = book.settings[i] == null ? now.settings[i] : book.settings[i];
        }
        past = new ArrayList<>();
        keeps = new State[3];
        return lines;
    }

    private static List<Token> tokens(String text) {
        List<Token> tokens = new ArrayList<>();
        java.util.regex.Matcher runs =
                java.util.regex.Pattern.compile("[a-z]+|[0-9]+|;|[^ \\n]", java.util.regex.Pattern.DOTALL).matcher(text);
        while (runs.find()) {
            String run = runs.group();
            char kind = '?';
            if (run.matches("[a-z]{1,8}")) {
                kind = TAKEN.contains(run) ? 'k' : 'n';
            } else if (run.matches("[0-9]{1,7}")) {
                kind = '#';
            } else if (run.equals(";")) {
                kind = ';';
            }
            tokens.add(new Token(kind, run, runs.start()));
        }
        tokens.add(new Token('.', "", text.length()));
        return tokens;
    }

    private static int read(String text, Book book) {
        List<Token> tokens = tokens(text);
        int lines = 0;
        int at = 0;
        do {
            at = readLine(tokens, at, book);
            lines++;
        } while (tokens.get(at).kind != '.');
        return lines;
    }

    /** Words of the form: k:word, n a NAME, # a NUMBER, ; the end; answers the place behind the LINE. */
    private static int readLine(List<Token> tokens, int at, Book book) {
        Token first = tokens.get(at);
        List<Token> line = new ArrayList<>();
        if (first.kind != 'k') {
            throw new Fault(first.place, 1);
        }
        switch (first.text) {
            case "person": room(first, book.of('p').size(), 12); break;
            case "trust": room(first, book.of('t').size(), 5); break;
            case "account": room(first, book.of('a').size(), 10); break;
            case "high": room(first, book.highs.size(), 6); break;
            case "loan": room(first, book.loans.size(), 8); break;
            case "cover":
            case "raise":
            case "closed":
                if (book.settings[List.of("closed", "cover", "raise").indexOf(first.text)] != null) {
                    throw new Fault(first.place, 2);
                }
                break;
            default: throw new Fault(first.place, 1);
        }
        // The form of what the LINE may be so far, one letter a TOKEN, tells what may come next.
        StringBuilder form = new StringBuilder();
        Named named = new Named();
        for (int i = at; ; i++) {
            Token token = tokens.get(i);
            String letter = token.kind == 'k' ? token.text + " " : token.kind + " ";
            if (!mayBegin(form + letter)) {
                throw new Fault(token.place, 1);
            }
            form.append(letter);
            line.add(token);
            meaning(line, first.text, token, book, named);
            if (token.kind == ';') {
                finish(line, first.text, book, named);
                return i + 1;
            }
        }
    }

    private static void room(Token first, int there, int most) {
        if (there >= most) {
            throw new Fault(first.place, 5);
        }
    }

    private static final List<String> FORMS = List.of(
            "person n (# )*(insider )?; ", "trust n (n # )*; ", "account n balance # (n # )+; ",
            "high n # from # to # ; ", "loan n # due # ; ", "(cover|raise|closed) # ; ");

    private static boolean mayBegin(String form) {
        for (String whole : FORMS) {
            java.util.regex.Matcher matcher = java.util.regex.Pattern.compile(whole).matcher(form);
            if (matcher.matches() || matcher.hitEnd()) {
                return true;
            }
        }
        return false;
    }

    private static void meaning(List<Token> line, String kind, Token token, Book book, Named named) {
        int index = line.size() - 1;
        boolean gives = kind.equals("person") || kind.equals("trust") || kind.equals("account");
        if (gives && index == 1) {
            named.name = token.text;
            if (book.named(token.text) != null) {
                throw new Fault(token.place, 2);
            }
        } else if (token.kind == 'n' && gives) {
            part(token, book, named);
        } else if (token.kind == 'n') {
            Named asked = book.named(token.text);
            if (asked == null || asked.kind != (kind.equals("high") ? 'a' : 'p')) {
                throw new Fault(token.place, 3);
            }
        } else if (token.kind == '#') {
            number(line, kind, token, named);
        }
    }

    private static void part(Token token, Book book, Named named) {
        if (named.parts.stream().anyMatch(p -> p.name.equals(token.text))) {
            throw new Fault(token.place, 2);
        }
        Named part = book.named(token.text);
        if (part == null || part.kind == 'a') {
            throw new Fault(token.place, 3);
        }
        if (named.parts.size() == 5) {
            throw new Fault(token.place, 5);
        }
        named.parts.add(part);
    }

    private static void number(List<Token> line, String kind, Token token, Named named) {
        int value = Integer.parseInt(token.text);
        int index = line.size() - 1;
        int least = 0;
        int most = 9999999;
        if (kind.equals("person")) {
            if (named.marks.contains(value)) {
                throw new Fault(token.place, 2);
            }
            least = 1;
            most = 9999;
        } else if (kind.equals("trust") || kind.equals("account") && index > 3) {
            most = 99;
        } else if (kind.equals("closed") || kind.equals("high") && index > 2 || kind.equals("loan") && index > 2) {
            most = 999;
            least = kind.equals("high") && index == 6 ? Integer.parseInt(line.get(4).text) : 0;
        }
        if (value < least || value > most) {
            throw new Fault(token.place, 4);
        }
        if (kind.equals("person")) {
            if (named.marks.size() == 3) {
                throw new Fault(token.place, 5);
            }
            named.marks.add(value);
        } else if (most == 99) {
            named.weights.add(value);
        } else if (kind.equals("account")) {
            named.balance = value;
        }
    }

    private static void finish(List<Token> line, String kind, Book book, Named named) {
        if (named.name != null) {
            named.kind = kind.charAt(0);
            named.number = book.of(named.kind).size();
            named.insider = line.get(line.size() - 2).text.equals("insider");
            book.all.add(named);
        } else if (kind.equals("high")) {
            book.highs.add(new Dated(book.named(line.get(1).text).number, value(line, 2), value(line, 4), value(line, 6)));
        } else if (kind.equals("loan")) {
            book.loans.add(new Dated(book.named(line.get(1).text).number, value(line, 2), value(line, 4), 999));
        } else {
            book.settings[List.of("closed", "cover", "raise").indexOf(kind)] = value(line, 1);
        }
    }

    private static int value(List<Token> line, int index) {
        return Integer.parseInt(line.get(index).text);
    }

    // ---- shares

    private int size(char kind) {
        return book == null ? 0 : book.of(kind).size();
    }

    private boolean is(char kind, int number) {
        return number >= 0 && number < size(kind);
    }

    private static boolean fails(Named group) {
        int together = group.weights.stream().mapToInt(w -> w).sum();
        return together == 0 || group.parts.stream().anyMatch(p -> p.kind == 't' && fails(p));
    }

    private static int depth(Named group) {
        return 1 + group.parts.stream().filter(p -> p.kind == 't').mapToInt(NaiveDesk::depth).max().orElse(0);
    }

    /** All rows of PARTS from a group to PERSONS: the PERSONS' numbers, one for each row. */
    private static List<Integer> rows(Named group) {
        List<Integer> rows = new ArrayList<>();
        for (Named part : group.parts) {
            if (part.kind == 'p') {
                rows.add(part.number);
            } else {
                rows.addAll(rows(part));
            }
        }
        return rows;
    }

    private static void shareOut(Named group, long amount, TreeMap<Integer, Long> got) {
        long together = group.weights.stream().mapToLong(w -> w).sum();
        for (int i = 0; i < group.parts.size(); i++) {
            long ahead = group.weights.subList(0, i).stream().mapToLong(w -> w).sum();
            long gets = amount * (ahead + group.weights.get(i)) / together - amount * ahead / together;
            Named part = group.parts.get(i);
            if (part.kind == 'p') {
                got.merge(part.number, gets, Long::sum);
            } else {
                shareOut(part, gets, got);
            }
        }
    }

    private static TreeMap<Integer, Long> shares(Named account, long amount) {
        TreeMap<Integer, Long> got = new TreeMap<>();
        if (!fails(account)) {
            shareOut(account, amount, got);
        }
        return got;
    }

    // ---- DEPOSITORS

    private boolean directlyOne(State state, int p, int q) {
        List<Named> persons = book.of('p');
        Set<Integer> alike = new HashSet<>(persons.get(p).marks);
        alike.retainAll(persons.get(q).marks);
        alike.removeAll(state.out);
        return !alike.isEmpty() || state.joins.stream().anyMatch(
                j -> j[0] == p && j[1] == q || j[0] == q && j[1] == p);
    }

    private List<Set<Integer>> depositors(State state) {
        List<Set<Integer>> depositors = new ArrayList<>();
        for (int p = 0; p < size('p'); p++) {
            Set<Integer> own = new TreeSet<>(Set.of(p));
            for (Set<Integer> group : List.copyOf(depositors)) {
                final int person = p;
                if (group.stream().anyMatch(q -> directlyOne(state, person, q))) {
                    own.addAll(group);
                    depositors.remove(group);
                }
            }
            depositors.add(own);
        }
        depositors.sort((a, b) -> Integer.compare(a.iterator().next(), b.iterator().next()));
        return depositors;
    }

    /** has, owes, set off, net, high, limit, paid, claim, insider. */
    private long[] view(State state, Set<Integer> persons) {
        long has = 0;
        long owes = 0;
        long high = 0;
        int day = state.settings[0];
        List<Named> accounts = book.of('a');
        for (int p : persons) {
            for (Named account : accounts) {
                has += shares(account, state.balances[account.number]).getOrDefault(p, 0L);
            }
            for (Dated loan : book.loans) {
                owes += loan.of == p && loan.first <= day ? loan.amount : 0;
            }
            for (Dated told : book.highs) {
                if (told.first <= day && day <= told.last) {
                    long amount = Math.min(told.amount, state.balances[told.of]);
                    high += shares(accounts.get(told.of), amount).getOrDefault(p, 0L);
                }
            }
        }
        long setOff = Math.min(owes, has);
        long limit = state.settings[1] + Math.min(high, state.settings[2]);
        long paid = Math.min(has - setOff, limit);
        long insider = persons.stream().anyMatch(p -> book.of('p').get(p).insider) ? 1 : 0;
        return new long[] {has, owes, setOff, has - setOff, high, limit, paid, has - setOff - paid, insider};
    }

    private List<long[]> views(State state) {
        List<long[]> views = new ArrayList<>();
        for (Set<Integer> group : depositors(state)) {
            views.add(view(state, group));
        }
        return views;
    }

    private long sum(State state, int what) {
        return views(state).stream().mapToLong(v -> v[what]).sum();
    }

    // ---- asked

    long person(int person, int what) {
        if (!is('p', person) || what < 0 || what > 6) {
            return -1;
        }
        Named asked = book.of('p').get(person);
        if (what >= 1 && what <= 3) {
            return asked.marks.size() >= what ? asked.marks.get(what - 1) : 0;
        }
        if (what == 5) {
            List<Set<Integer>> depositors = depositors(now);
            for (int d = 0; d < depositors.size(); d++) {
                if (depositors.get(d).contains(person)) {
                    return d;
                }
            }
        }
        return what == 0 ? asked.marks.size() : what == 4 ? (asked.insider ? 1 : 0) : asked.name.charAt(0) - 'a';
    }

    long trust(int trust, int what) {
        if (!is('t', trust) || what < 0 || what > 3) {
            return -1;
        }
        Named asked = book.of('t').get(trust);
        long[] row = {asked.parts.size(), asked.weights.stream().mapToInt(w -> w).sum(), fails(asked) ? 1 : 0, depth(asked)};
        return row[what];
    }

    long account(int account, int what) {
        if (!is('a', account) || what < 0 || what > 3) {
            return -1;
        }
        Named asked = book.of('a').get(account);
        long[] row = {now.balances[account], asked.parts.size(), fails(asked) ? 1 : 0, new HashSet<>(rows(asked)).size()};
        return row[what];
    }

    long share(int account, int person) {
        if (!is('a', account) || !is('p', person)) {
            return THROWS;
        }
        return shares(book.of('a').get(account), now.balances[account]).getOrDefault(person, 0L);
    }

    long ways(int account, int person) {
        if (!is('a', account) || !is('p', person)) {
            return -1;
        }
        return rows(book.of('a').get(account)).stream().filter(p -> p == person).count();
    }

    long who(int depositor) {
        List<Set<Integer>> depositors = depositors(now);
        if (depositor < 0 || depositor >= depositors.size()) {
            return -1;
        }
        return depositors.get(depositor).stream().mapToInt(p -> 1 << p).sum();
    }

    long view(int depositor, int what) {
        List<long[]> views = views(now);
        return depositor < 0 || depositor >= views.size() || what < 0 || what > 8 ? -1 : views.get(depositor)[what];
    }

    long all(int what) {
        long frozen = 0;
        for (int a = 0; a < size('a'); a++) {
            frozen += fails(book.of('a').get(a)) ? now.balances[a] : 0;
        }
        List<long[]> views = views(now);
        long[] row = {sum(now, 0), sum(now, 2), sum(now, 6), sum(now, 7), frozen, views.size(),
            views.stream().filter(v -> v[7] > 0).count()};
        return what < 0 || what > 6 ? -1 : row[what];
    }

    long ranked(int k) {
        List<long[]> views = views(now);
        List<Integer> order = new ArrayList<>();
        for (int d = 0; d < views.size(); d++) {
            order.add(d);
        }
        order.sort((d, e) -> Long.compare(views.get(e)[7], views.get(d)[7]));
        return k < 0 || k >= order.size() ? -1 : order.get(k);
    }

    long estate(int money, int depositor) {
        List<long[]> views = views(now);
        if (money < 0 || money > 99999999 || depositor < -1 || depositor >= views.size()) {
            return -2;
        }
        long left = money;
        long fund = Math.min(left, sum(now, 6));
        if (depositor == -1) {
            return fund;
        }
        left -= fund;
        long[] gets = new long[views.size()];
        for (int rank = 0; rank <= 1; rank++) {
            final int insider = rank;
            long claims = views.stream().filter(v -> v[8] == insider).mapToLong(v -> v[7]).sum();
            long money2 = Math.min(left, claims);
            long sofar = 0;
            for (int d = 0; d < gets.length; d++) {
                if (views.get(d)[8] == rank && claims > 0) {
                    gets[d] = money2 * (sofar + views.get(d)[7]) / claims - money2 * sofar / claims;
                    sofar += views.get(d)[7];
                }
            }
            left -= money2;
        }
        return gets[depositor];
    }

    long enough(int rank) {
        long[] due = {sum(now, 6), 0, 0};
        for (long[] view : views(now)) {
            due[1 + (int) view[8]] += view[7];
        }
        if (rank < 0 || rank > 2) {
            return -1;
        }
        return due[rank] == 0 ? 0 : Arrays.stream(due, 0, rank + 1).sum();
    }

    private State with(int setting, int value) {
        State other = now.copy();
        other.settings[setting] = value;
        return other;
    }

    long onDay(int day) {
        return day < 0 || day > 999 ? -1 : sum(with(0, day), 6);
    }

    long bestDay(int from, int to, int what) {
        if (from < 0 || to > 999 || to < from || what < 0 || what > 1) {
            return -1;
        }
        int best = from;
        long bestPaid = onDay(from);
        for (int day = from + 1; day <= to; day++) {
            long paid = onDay(day);
            if (what == 0 ? paid < bestPaid : paid > bestPaid) {
                best = day;
                bestPaid = paid;
            }
        }
        return best;
    }

    /** Whether an answer of coverFor is the due one: enough, and one cent less is not. */
    boolean isCoverFor(int hundredths, long cover) {
        if (hundredths < 1 || hundredths > 100) {
            return cover == -1;
        }
        long net = sum(now, 3) * hundredths;
        return cover >= 0 && sum(with(1, (int) cover), 6) * 100 >= net
                && (cover == 0 || sum(with(1, (int) cover - 1), 6) * 100 < net);
    }

    private boolean somebodyHas(int mark) {
        return book != null && book.of('p').stream().anyMatch(p -> p.marks.contains(mark));
    }

    long markless(int mark) {
        if (!somebodyHas(mark)) {
            return THROWS;
        }
        State other = now.copy();
        if (!other.out.remove(mark)) {
            other.out.add(mark);
        }
        return sum(other, 6) - sum(now, 6);
    }

    long joining(int person, int other) {
        if (!is('p', person) || !is('p', other) || person == other) {
            return THROWS;
        }
        State joined = now.copy();
        joined.joins.add(new int[] {person, other});
        return sum(joined, 6) - sum(now, 6);
    }

    long apart(int person, int other) {
        int persons = size('p');
        if (!is('p', person) || !is('p', other)) {
            return -1;
        }
        long[][] far = new long[persons][persons];
        for (int p = 0; p < persons; p++) {
            for (int q = 0; q < persons; q++) {
                far[p][q] = p == q ? 0 : directlyOne(now, p, q) ? 1 : 100;
            }
        }
        for (int k = 0; k < persons; k++) {
            for (int p = 0; p < persons; p++) {
                for (int q = 0; q < persons; q++) {
                    far[p][q] = Math.min(far[p][q], far[p][k] + far[k][q]);
                }
            }
        }
        return far[person][other] >= 100 ? -1 : far[person][other];
    }

    // ---- acts

    private void remember() {
        past.add(now.copy());
        if (past.size() > 16) {
            past.remove(0);
        }
    }

    long balance(int account, int cents) {
        if (!is('a', account) || cents < 0 || cents > 9999999) {
            return -1;
        }
        remember();
        int was = now.balances[account];
        now.balances[account] = cents;
        return was;
    }

    long join(int person, int other) {
        if (!is('p', person) || !is('p', other) || person == other || now.joins.size() == 30) {
            return -1;
        }
        remember();
        now.joins.add(new int[] {person, other});
        return depositors(now).size();
    }

    long split(int person) {
        for (int j = now.joins.size() - 1; j >= 0; j--) {
            int[] join = now.joins.get(j);
            if (join[0] == person || join[1] == person) {
                remember();
                now.joins.remove(j);
                return join[0] + join[1] - person;
            }
        }
        return -1;
    }

    long tell(int what, int v) {
        if (book == null || what < 0 || what > 2 || v < 0 || v > (what == 0 ? 999 : 9999999)) {
            return -1;
        }
        remember();
        int was = now.settings[what];
        now.settings[what] = v;
        return was;
    }

    boolean mark(int mark, boolean out) {
        if (!somebodyHas(mark)) {
            return false;
        }
        remember();
        if (out) {
            now.out.add(mark);
        } else {
            now.out.remove(mark);
        }
        return true;
    }

    long undo() {
        if (past.isEmpty()) {
            return -1;
        }
        now = past.remove(past.size() - 1);
        return past.size();
    }

    boolean keep(int k, boolean back) {
        if (book == null || k < 0 || k > 2 || back && keeps[k] == null) {
            return false;
        }
        if (back) {
            now = keeps[k].copy();
            past.clear();
        } else {
            keeps[k] = now.copy();
        }
        return true;
    }

    long count(int what) {
        long[] row = {size('p'), size('t'), size('a'), book == null ? 0 : book.highs.size(),
            book == null ? 0 : book.loans.size(), now.settings[0], now.settings[1], now.settings[2],
            now.joins.size(), now.out.size(), past.size(), tape.length()};
        return what < 0 || what > 11 ? -1 : row[what];
    }
}
