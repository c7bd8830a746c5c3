import java.lang.reflect.Constructor;
import java.lang.reflect.Field;
import java.lang.reflect.Method;
import java.lang.reflect.Modifier;
import java.util.Arrays;
import java.util.TreeSet;

/** The public face, as the document and rules 1 and 5 of LANGUAGE.md have it; and that no late call breaks. */
public final class FaceTest {
    private static final String ARGUMENT = " throws java.lang.IllegalArgumentException";
    private static final String[] FACE = {
        "public int ClearingBooks.acquirer(int)" + ARGUMENT + ",java.lang.IllegalStateException",
        "public int ClearingBooks.issuer(int)" + ARGUMENT + ",java.lang.IllegalStateException",
        "public long ClearingBooks.clear(int,int,long)" + ARGUMENT,
        "public long ClearingBooks.back(int,int,long)" + ARGUMENT,
        "public boolean ClearingBooks.reconcile(int,int,long)" + ARGUMENT,
        "public long ClearingBooks.batch(int,int)" + ARGUMENT,
        "public int ClearingBooks.settle()",
        "public long ClearingBooks.transfer(int,int)" + ARGUMENT,
        "public long ClearingBooks.party(int,int)" + ARGUMENT,
        "public int ClearingBooks.parties()",
        "public int ClearingBooks.audit()",
        "public ClearingBooks()",
        "public static final int ClearingBooks.NONE",
    };

    public static void main(String[] args) {
        Check.due("members", new TreeSet<>(Arrays.asList(FACE)).toString(), membersThatAreNotPrivate().toString());
        Check.due("class", "public final", Modifier.toString(ClearingBooks.class.getModifiers()));
        noPrivateMethodIsNamedLikeAPublicOne();
        staticFieldsAreFinal();
        callsBeyondTheLastStillEnd();
        Check.end();
    }

    private static TreeSet<String> membersThatAreNotPrivate() {
        TreeSet<String> members = new TreeSet<>();
        for (Method m : ClearingBooks.class.getDeclaredMethods()) {
            if (!Modifier.isPrivate(m.getModifiers())) {
                members.add(m.toString());
            }
        }
        for (Constructor<?> c : ClearingBooks.class.getDeclaredConstructors()) {
            members.add(c.toString());
        }
        for (Field f : ClearingBooks.class.getDeclaredFields()) {
            if (!Modifier.isPrivate(f.getModifiers())) {
                members.add(f.toString());
            }
        }
        return members;
    }

    private static void noPrivateMethodIsNamedLikeAPublicOne() {
        TreeSet<String> names = new TreeSet<>();
        for (Method m : ClearingBooks.class.getDeclaredMethods()) {
            Check.due("one method named " + m.getName(), 1, names.add(m.getName()) ? 1 : 0);
        }
    }

    private static void staticFieldsAreFinal() {
        for (Field f : ClearingBooks.class.getDeclaredFields()) {
            int modifiers = f.getModifiers();
            boolean holds = !Modifier.isStatic(modifiers) || Modifier.isFinal(modifiers);
            Check.due("final static " + f.getName(), 1, holds ? 1 : 0);
        }
    }

    /** What they answer is free, but sums that wrap around must not throw or run on. */
    private static void callsBeyondTheLastStillEnd() {
        ClearingBooks books = new ClearingBooks();
        books.acquirer(0);
        books.issuer(0);
        for (int call = 0; call < 9223372; call++) {
            books.back(1, 2, 1000000000000L);
        }
        // Both are 2^63 off 0 now, which a long holds as the least number: no transfer can make that even.
        books.back(1, 2, 36854775808L);
        Check.due("position of the acquirer", Long.MIN_VALUE, books.party(1, 0));
        Check.due("position of the issuer", Long.MIN_VALUE, books.party(2, 0));
        Check.due("transfers end", "14", Check.outcome(books::settle));
        Check.due("audit", "0", Check.outcome(books::audit));
    }
}
