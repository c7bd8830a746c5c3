/** Promises 8 and 9: settle and transfer. */
public final class SettleTest {
    public static void main(String[] args) {
        nothingToSettle();
        positionsComeToWhatIsSettled();
        leastPaysGreatest();
        ofSeveralTheFirst();
        partlyPaidIsRankedAnew();
        fourteenTransfers();
        onlyTheLatestSettlingIsTold();
        wrongNumbersAreRefused();
        Check.end();
    }

    private static void nothingToSettle() {
        ClearingBooks house = new ClearingBooks();
        Check.due("the house alone", 0, house.settle());
        Check.dueThrow("no transfer", Check.ARGUMENT, () -> house.transfer(0, 0));
        ClearingBooks even = Books.acquirersThenIssuers(1, 1);
        even.back(1, 2, 10);
        even.back(1, 2, -10);
        Check.due("all even", 0, even.settle());
    }

    private static void positionsComeToWhatIsSettled() {
        ClearingBooks books = new ClearingBooks();
        books.acquirer(50);
        books.issuer(100);
        books.clear(1, 2, 10000);
        Check.due("first", 2, books.settle());
        books.clear(1, 2, 20000);
        Check.due("settled not yet", 9850, books.party(1, 1));
        Check.due("second", 2, books.settle());
        long[] settled = {150, 29550, -29700};
        for (int p = 0; p < 3; p++) {
            Check.due("position of " + p, 0, books.party(p, 0));
            Check.due("settled of " + p, settled[p], books.party(p, 1));
        }
        Check.due("audit", 0, books.audit());
    }

    private static void leastPaysGreatest() {
        ClearingBooks books = Books.acquirersThenIssuers(2, 2);
        books.back(1, 3, -30);
        books.back(2, 4, -70);
        books.back(2, 3, -20);
        Check.due("transfers", 3, books.settle());
        Books.dueTransfer(books, 0, 4, 2, 70);
        Books.dueTransfer(books, 1, 3, 1, 30);
        Books.dueTransfer(books, 2, 3, 2, 20);
    }

    private static void ofSeveralTheFirst() {
        ClearingBooks books = Books.acquirersThenIssuers(3, 3);
        books.back(3, 6, -9);
        books.back(1, 4, -9);
        books.back(2, 5, -9);
        Check.due("transfers", 3, books.settle());
        Books.dueTransfer(books, 0, 4, 1, 9);
        Books.dueTransfer(books, 1, 5, 2, 9);
        Books.dueTransfer(books, 2, 6, 3, 9);
    }

    /** An acquirer that pays too: 1 is at -60, 4 at -40; 3 has 55, 2 has 45, and stays ahead once 3 has 0. */
    private static void partlyPaidIsRankedAnew() {
        ClearingBooks books = Books.acquirersThenIssuers(2, 2);
        books.back(1, 3, 60);
        books.back(2, 3, -5);
        books.back(2, 4, -40);
        Check.due("transfers", 3, books.settle());
        Books.dueTransfer(books, 0, 1, 3, 55);
        Books.dueTransfer(books, 1, 4, 2, 40);
        Books.dueTransfer(books, 2, 1, 2, 5);
    }

    private static void fourteenTransfers() {
        ClearingBooks books = new ClearingBooks();
        books.acquirer(0);
        for (int p = 2; p <= 14; p++) {
            books.issuer(1000);
        }
        for (int p = 2; p <= 14; p++) {
            books.clear(1, p, 1);
        }
        Check.due("transfers to the house", 13, books.settle());
        for (int p = 2; p <= 14; p++) {
            Books.dueTransfer(books, p - 2, p, 0, 1);
        }
        for (int p = 2; p <= 14; p++) {
            books.clear(1, p, 11);
        }
        Check.due("transfers to two", 14, books.settle());
        long paid = 0;
        for (int k = 0; k < 14; k++) {
            paid += books.transfer(k, 2);
        }
        Check.due("paid in all", 130, paid);
        Check.dueThrow("transfer 14", Check.ARGUMENT, () -> books.transfer(14, 0));
    }

    private static void onlyTheLatestSettlingIsTold() {
        ClearingBooks books = Books.acquirersThenIssuers(2, 2);
        books.back(1, 3, -30);
        books.back(2, 4, -70);
        Check.due("first", 2, books.settle());
        books.back(1, 4, 6);
        Books.dueTransfer(books, 0, 4, 2, 70);
        Check.due("second", 1, books.settle());
        Books.dueTransfer(books, 0, 1, 4, 6);
        Check.dueThrow("of the first settling", Check.ARGUMENT, () -> books.transfer(1, 0));
        Check.due("third", 0, books.settle());
        Check.dueThrow("of the second settling", Check.ARGUMENT, () -> books.transfer(0, 0));
    }

    private static void wrongNumbersAreRefused() {
        ClearingBooks books = Books.acquirersThenIssuers(1, 1);
        books.back(1, 2, 8);
        books.settle();
        String before = Check.stateOf(books);
        for (int k : new int[] {-1, 1, 14, 15, Integer.MIN_VALUE, Integer.MAX_VALUE}) {
            Check.dueThrow("transfer(" + k + ", 0)", Check.ARGUMENT, () -> books.transfer(k, 0));
        }
        for (int what : new int[] {-1, 3, Integer.MIN_VALUE, Integer.MAX_VALUE}) {
            Check.dueThrow("transfer(0, " + what + ")", Check.ARGUMENT, () -> books.transfer(0, what));
        }
        Check.due("after wrong numbers", before, Check.stateOf(books));
    }
}
