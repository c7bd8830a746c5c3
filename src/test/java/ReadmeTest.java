/** The example of README.md, call for call: what stands behind its calls there is what they answer. */
public final class ReadmeTest {
    public static void main(String[] args) {
        ClearingBooks books = new ClearingBooks();
        int acquirer = books.acquirer(50);
        int issuer = books.issuer(100);
        Check.due("acquirer", 1, acquirer);
        Check.due("issuer", 2, issuer);

        Check.due("clear", 150, books.clear(acquirer, issuer, 10000));
        Check.due("position", 9850, books.party(acquirer, 0));
        Check.due("back", 9350, books.back(acquirer, issuer, 500));
        Check.due("reconcile", 1, books.reconcile(acquirer, 1, 10000) ? 1 : 0);

        Check.due("settle", 2, books.settle());
        Books.dueTransfer(books, 0, 2, 1, 9350);
        Books.dueTransfer(books, 1, 2, 0, 50);
        Check.due("settled", -9400, books.party(issuer, 1));
        Check.due("audit", 0, books.audit());
        Check.end();
    }
}
