import java.lang.reflect.Field;

/** Promise 12: audit. */
public final class AuditTest {
    public static void main(String[] args) throws ReflectiveOperationException {
        auditIsZeroWhateverIsCalled();
        auditSeesWhatIsOff();
        auditAddsUpAllParties();
        aRefusedCallLeavesAuditAlone();
        Check.end();
    }

    private static void auditIsZeroWhateverIsCalled() {
        ClearingBooks books = new ClearingBooks();
        Check.due("new", 0, books.audit());
        books.acquirer(33);
        books.issuer(77);
        books.clear(1, 2, 12347);
        Check.due("cleared", 0, books.audit());
        books.settle();
        Check.due("settled", 0, books.audit());
        books.back(1, 2, 99);
        Check.due("gone back", 0, books.audit());
        books.settle();
        Check.due("settled again", 0, books.audit());
    }

    // No run of calls brings the sums off 0, so the test has to do it inside the object.
    private static void auditSeesWhatIsOff() throws ReflectiveOperationException {
        ClearingBooks books = new ClearingBooks();
        books.acquirer(33);
        row(books, "positions")[1] = 5;
        Check.due("positions are off", 2, books.audit());
        row(books, "settled")[0] = -5;
        Check.due("both are off", 3, books.audit());
        row(books, "positions")[0] = -5;
        Check.due("what is settled is off", 1, books.audit());
        row(books, "settled")[1] = 5;
        Check.due("none is off", 0, books.audit());
    }

    /** "2 if the sum of positions is not 0, and 1 if that of what is settled is not 0, together": of all 15. */
    private static void auditAddsUpAllParties() throws ReflectiveOperationException {
        ClearingBooks books = Books.acquirersThenIssuers(7, 7);
        for (int p = 0; p < 15; p++) {
            for (long off : new long[] {1, -1, 1L << 31, 1L << 32, 1L << 62}) {
                row(books, "positions")[p] += off;
                Check.due("position of " + p + " is off", 2, books.audit());
                row(books, "settled")[p] += off;
                Check.due("both of " + p + " are off", 3, books.audit());
                row(books, "positions")[p] -= off;
                Check.due("settled of " + p + " is off", 1, books.audit());
                row(books, "settled")[p] -= off;
            }
        }
        row(books, "positions")[0] = 6;
        row(books, "settled")[14] = -6;
        Check.due("each is off, and both sums together are 0", 3, books.audit());
    }

    private static void aRefusedCallLeavesAuditAlone() {
        ClearingBooks books = Books.pair(33, 77);
        books.clear(1, 2, 1000000000000L);
        Check.dueThrow("clear too much", Check.ARGUMENT, () -> books.clear(1, 2, 1000000000001L));
        Check.dueThrow("clear by no issuer", Check.ARGUMENT, () -> books.clear(1, 1, 5));
        Check.dueThrow("back to no issuer", Check.ARGUMENT, () -> books.back(1, 0, 5));
        Check.due("after refused calls", 0, books.audit());
        books.settle();
        Check.due("and settling", 0, books.audit());
    }

    private static long[] row(ClearingBooks books, String name) throws ReflectiveOperationException {
        Field field = ClearingBooks.class.getDeclaredField(name);
        field.setAccessible(true);
        return (long[]) field.get(books);
    }
}
