/** Objects that tests begin with, and what is due of them. */
final class Books {
    private Books() {
    }

    /** Acquirer 1 and issuer 2. */
    static ClearingBooks pair(int fee, int share) {
        ClearingBooks books = new ClearingBooks();
        books.acquirer(fee);
        books.issuer(share);
        return books;
    }

    static ClearingBooks acquirersThenIssuers(int acquirers, int issuers) {
        ClearingBooks books = new ClearingBooks();
        for (int i = 0; i < acquirers; i++) {
            books.acquirer(0);
        }
        for (int i = 0; i < issuers; i++) {
            books.issuer(0);
        }
        return books;
    }

    static void duePositions(String when, ClearingBooks books, long... positions) {
        for (int p = 0; p < positions.length; p++) {
            Check.due(when + ": position of " + p, positions[p], books.party(p, 0));
        }
    }

    static void dueSettled(String when, ClearingBooks books, long... settled) {
        for (int p = 0; p < settled.length; p++) {
            Check.due(when + ": settled of " + p, settled[p], books.party(p, 1));
        }
    }

    static void duePlaces(String when, ClearingBooks books, long... places) {
        for (int p = 0; p < places.length; p++) {
            Check.due(when + ": place of " + p, places[p], books.party(p, 4));
        }
    }

    static void dueBatch(ClearingBooks books, int acquirer, long count, long sum) {
        Check.due("amounts of " + acquirer, count, books.batch(acquirer, 0));
        Check.due("sum of " + acquirer, sum, books.batch(acquirer, 1));
    }

    static void dueReconcile(ClearingBooks books, boolean want, int acquirer, int count, long sum) {
        String call = "reconcile(" + acquirer + ", " + count + ", " + sum + ")";
        Check.due(call, want ? 1 : 0, books.reconcile(acquirer, count, sum) ? 1 : 0);
    }

    static void dueTransfer(ClearingBooks books, int k, long payer, long payee, long amount) {
        Check.due("payer of " + k, payer, books.transfer(k, 0));
        Check.due("payee of " + k, payee, books.transfer(k, 1));
        Check.due("payment of " + k, amount, books.transfer(k, 2));
    }
}
