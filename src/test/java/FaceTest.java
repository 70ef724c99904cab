import java.lang.reflect.Constructor;
import java.lang.reflect.Field;
import java.lang.reflect.Method;
import java.lang.reflect.Modifier;
import java.util.Set;
import java.util.TreeSet;

/** The public face, and promise 1: a new object. */
final class FaceTest {
    private FaceTest() {
    }

    public static void main(String[] args) {
        theFaceIsTheDocuments();
        aNewObjectHasNoBook();
        aNewObjectTakesNoActs();
        Check.finish("FaceTest");
    }

    private static void theFaceIsTheDocuments() {
        Set<String> want = new TreeSet<>(Set.of(
                "int feed(int,int,int,int,int)", "int book(int)", "int person(int,int)",
                "int trust(int,int)", "int account(int,int)", "int share(int,int)", "int who(int)",
                "long view(int,int)", "long all(int)", "int ranked(int)", "long estate(int,int)",
                "long enough(int)", "long onDay(int)", "int bestDay(int,int,int)",
                "long coverFor(int)", "long markless(int)", "long joining(int,int)",
                "int apart(int,int)", "int ways(int,int)", "int balance(int,int)",
                "int join(int,int)", "int split(int)", "int tell(int,int)",
                "boolean mark(int,boolean)", "int undo()", "boolean keep(int,boolean)",
                "int count(int)"));
        Set<String> got = new TreeSet<>();
        Set<String> names = new TreeSet<>();
        for (Method method : PayoutDesk.class.getDeclaredMethods()) {
            if (!Modifier.isPrivate(method.getModifiers())) {
                got.add(written(method));
                names.add(method.getName());
                Check.due(method + " is public", Modifier.isPublic(method.getModifiers()), true);
            }
        }
        for (Method method : PayoutDesk.class.getDeclaredMethods()) {
            if (Modifier.isPrivate(method.getModifiers())) {
                Check.due(method + " has a public one's name", names.contains(method.getName()), false);
            }
        }
        for (Class<?> inside : PayoutDesk.class.getDeclaredClasses()) {
            for (Method method : inside.getDeclaredMethods()) {
                Check.due(method + " has a public one's name", names.contains(method.getName()), false);
            }
        }
        if (!got.equals(want)) {
            System.out.println("methods: " + got);
        }
        Check.due("the methods are the document's", got.equals(want), true);
        Check.due("constructors", PayoutDesk.class.getDeclaredConstructors().length, 1);
        for (Constructor<?> made : PayoutDesk.class.getDeclaredConstructors()) {
            Check.due("public PayoutDesk()",
                    Modifier.isPublic(made.getModifiers()) && made.getParameterCount() == 0, true);
        }
        for (Field field : PayoutDesk.class.getDeclaredFields()) {
            boolean isNone = field.getName().equals("NONE");
            Check.due(field + " is private", Modifier.isPrivate(field.getModifiers()), !isNone);
        }
        Check.due("final", Modifier.isFinal(PayoutDesk.class.getModifiers()), true);
        Check.due("NONE", PayoutDesk.NONE, -1);
    }

    private static String written(Method method) {
        StringBuilder text = new StringBuilder();
        text.append(method.getReturnType()).append(' ').append(method.getName()).append('(');
        for (int i = 0; i < method.getParameterCount(); i++) {
            text.append(i == 0 ? "" : ",").append(method.getParameterTypes()[i]);
        }
        return text.append(')').toString();
    }

    private static void aNewObjectHasNoBook() {
        Check.sentence("Promise 1", "No BOOK; cover, raise, closed as without.");
        PayoutDesk desk = new PayoutDesk();
        long[] counts = {0, 0, 0, 0, 0, 0, 100000, 50000, 0, 0, 0, 0};
        for (int what = 0; what < counts.length; what++) {
            Check.due("count(" + what + ")", desk.count(what), counts[what]);
        }
        for (int what = 0; what <= 6; what++) {
            Check.due("all(" + what + ")", desk.all(what), 0);
        }
        Check.due("person(0, 0)", desk.person(0, 0), -1);
        Check.due("trust(0, 0)", desk.trust(0, 0), -1);
        Check.due("account(0, 0)", desk.account(0, 0), -1);
        Check.throwsNone("share(0, 0)", () -> desk.share(0, 0));
        Check.due("who(0)", desk.who(0), -1);
        Check.due("view(0, 0)", desk.view(0, 0), -1);
        Check.due("ranked(0)", desk.ranked(0), -1);
        Check.due("estate(5, -1)", desk.estate(5, -1), 0);
        Check.due("estate(5, 0)", desk.estate(5, 0), -2);
        for (int rank = 0; rank <= 2; rank++) {
            Check.due("enough(" + rank + ")", desk.enough(rank), 0);
        }
        Check.due("onDay(5)", desk.onDay(5), 0);
        Check.due("bestDay(3, 9, 1)", desk.bestDay(3, 9, 1), 3);
        Check.due("coverFor(100)", desk.coverFor(100), 0);
        Check.throwsNone("markless(1)", () -> desk.markless(1));
        Check.throwsNone("joining(0, 1)", () -> desk.joining(0, 1));
        Check.due("apart(0, 0)", desk.apart(0, 0), -1);
        Check.due("ways(0, 0)", desk.ways(0, 0), -1);
    }

    private static void aNewObjectTakesNoActs() {
        PayoutDesk desk = new PayoutDesk();
        Check.due("balance(0, 1)", desk.balance(0, 1), -1);
        Check.due("join(0, 1)", desk.join(0, 1), -1);
        Check.due("split(0)", desk.split(0), -1);
        for (int what = 0; what <= 2; what++) {
            Check.due("tell(" + what + ", 5)", desk.tell(what, 5), -1);
        }
        Check.due("mark(1, true)", desk.mark(1, true), false);
        Check.due("mark(0, true)", desk.mark(0, true), false);
        Check.due("undo()", desk.undo(), -1);
        Check.due("keep(0, false)", desk.keep(0, false), false);
        Check.due("keep(0, true)", desk.keep(0, true), false);
        Check.due("count(10)", desk.count(10), 0);
    }
}
