import java.lang.reflect.Field;

/** Promise 12: audit. */
public final class AuditTest {
    public static void main(String[] args) throws ReflectiveOperationException {
        auditIsZeroWhateverIsCalled();
        auditSeesWhatIsOff();
        Check.end();
    }

    private static void auditIsZeroWhateverIsCalled() {
        ClearingBooks books = new ClearingBooks();
        Check.due("new", 0, books.audit());
        books.acquirer(33);
        books.issuer(77);
        books.clear(1, 2, 12347);
        Check.due("cleared", 0, books.audit());
        books.settle();
        Check.due("settled", 0, books.audit());
        books.back(1, 2, 99);
        Check.due("gone back", 0, books.audit());
        books.settle();
        Check.due("settled again", 0, books.audit());
    }

    // No run of calls brings the sums off 0, so the test has to do it inside the object.
    private static void auditSeesWhatIsOff() throws ReflectiveOperationException {
        ClearingBooks books = new ClearingBooks();
        books.acquirer(33);
        row(books, "positions")[1] = 5;
        Check.due("positions are off", 2, books.audit());
        row(books, "settled")[0] = -5;
        Check.due("both are off", 3, books.audit());
        row(books, "positions")[0] = -5;
        Check.due("what is settled is off", 1, books.audit());
        row(books, "settled")[1] = 5;
        Check.due("none is off", 0, books.audit());
    }

    private static long[] row(ClearingBooks books, String name) throws ReflectiveOperationException {
        Field field = ClearingBooks.class.getDeclaredField(name);
        field.setAccessible(true);
        return (long[]) field.get(books);
    }
}
