/** Promises 6 and 7: reconcile and batch. */
public final class BatchTest {
    public static void main(String[] args) {
        onlyTheRightCountAndSumEmptyIt();
        batchesAreApart();
        settlingLeavesBatchesAlone();
        wrongNumbersChangeNothing();
        Check.end();
    }

    /** Acquirers 1 and 3, issuer 2; the batch of 1 has two amounts with the sum 300. */
    private static ClearingBooks withBatch() {
        ClearingBooks books = new ClearingBooks();
        books.acquirer(10);
        books.issuer(20);
        books.acquirer(30);
        books.clear(1, 2, 100);
        books.clear(1, 2, 200);
        return books;
    }

    private static void dueBatch(String when, ClearingBooks books, int acquirer, long count, long sum) {
        Check.due(when + ": amounts of " + acquirer, count, books.batch(acquirer, 0));
        Check.due(when + ": sum of " + acquirer, sum, books.batch(acquirer, 1));
    }

    private static void onlyTheRightCountAndSumEmptyIt() {
        ClearingBooks books = withBatch();
        Books.dueReconcile(books, false, 1, 2, 299);
        Books.dueReconcile(books, false, 1, 3, 300);
        Books.dueReconcile(books, false, 1, 0, 0);
        Books.dueReconcile(books, false, 1, -2, -300);
        Books.dueReconcile(books, false, 1, Integer.MIN_VALUE, Long.MIN_VALUE);
        Books.dueReconcile(books, false, 1, 2, 300 + (1L << 32));
        dueBatch("not reconciled", books, 1, 2, 300);
        long position = books.party(1, 0);
        Books.dueReconcile(books, true, 1, 2, 300);
        dueBatch("reconciled", books, 1, 0, 0);
        Check.due("position stays", position, books.party(1, 0));
        Books.dueReconcile(books, false, 1, 2, 300);
        Books.dueReconcile(books, true, 1, 0, 0);
        books.clear(1, 2, 5);
        dueBatch("begun anew", books, 1, 1, 5);
    }

    private static void batchesAreApart() {
        ClearingBooks books = withBatch();
        Books.dueReconcile(books, true, 3, 0, 0);
        books.clear(3, 2, 50);
        dueBatch("of 1", books, 1, 2, 300);
        dueBatch("of 3", books, 3, 1, 50);
        Books.dueReconcile(books, true, 3, 1, 50);
        dueBatch("of 1 still", books, 1, 2, 300);
    }

    private static void settlingLeavesBatchesAlone() {
        ClearingBooks books = withBatch();
        books.settle();
        books.back(1, 2, 40);
        dueBatch("settled", books, 1, 2, 300);
    }

    private static void wrongNumbersChangeNothing() {
        ClearingBooks books = withBatch();
        String before = Check.stateOf(books);
        for (int p : new int[] {-1, 0, 2, 4, 15, Integer.MIN_VALUE, Integer.MAX_VALUE}) {
            Check.dueThrow("reconcile of " + p, Check.ARGUMENT, () -> books.reconcile(p, 0, 0) ? 1 : 0);
            Check.dueThrow("batch of " + p, Check.ARGUMENT, () -> books.batch(p, 0));
        }
        for (int what : new int[] {-1, 2, Integer.MIN_VALUE, Integer.MAX_VALUE}) {
            Check.dueThrow("batch(1, " + what + ")", Check.ARGUMENT, () -> books.batch(1, what));
        }
        Check.due("after wrong numbers", before, Check.stateOf(books));
    }
}
