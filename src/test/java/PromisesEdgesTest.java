/** A test for each sentence under "Promise 1" to "Promise 11" that names a boundary case; AuditTest has promise 12. */
public final class PromisesEdgesTest {
    private static final long MOST = 1000000000000L;
    private static final int[] FAR = {Integer.MIN_VALUE, Integer.MIN_VALUE + 1, Integer.MAX_VALUE - 1, Integer.MAX_VALUE};

    public static void main(String[] args) {
        theHouseAlone();
        anAcquirerAndItsNumber();
        aFeeIsZeroToAThousand();
        noAcquirerIfThereAreFifteenParties();
        anIssuerAndItsNumber();
        aShareIsZeroToAThousand();
        noIssuerIfThereAreFifteenParties();
        clearingAnswersTheCharge();
        clearedIsOneToTheMost();
        backAnswersTheAcquirersPositionThen();
        backIsFromMinusTheMostToTheMost();
        reconciledIsEmptyFromNowOn();
        notReconciledStays();
        anEmptyBatchHasNoneWithSumZero();
        reconcilingIsOfAnAcquirerAlone();
        ofABatchCountOrSum();
        settlingAnswersHowManyTransfers();
        atMostFourteenTransfers();
        ofATransferPayerPayeeAmount();
        thereIsNoneSuchTransfer();
        ofATransferWhatIsNoneOfThese();
        ofAPartyFiveThings();
        theHouseHasNoFeeAndNoShare();
        placesFromTheGreatestToTheLeast();
        placesOfAlikeOnes();
        ofAPartyWhatIsNoneOfThese();
        howManyPartiesThereAre();
        Check.end();
    }

    /** Promise 1: "The house alone." */
    private static void theHouseAlone() {
        ClearingBooks books = new ClearingBooks();
        Check.due("parties", 1, books.parties());
        for (int what = 0; what <= 4; what++) {
            Check.due("party(0, " + what + ")", 0, books.party(0, what));
        }
        Check.dueThrow("party(1, 0)", Check.ARGUMENT, () -> books.party(1, 0));
        Check.dueThrow("clear(0, 0, 1)", Check.ARGUMENT, () -> books.clear(0, 0, 1));
        Check.dueThrow("clear(1, 2, 1)", Check.ARGUMENT, () -> books.clear(1, 2, 1));
        Check.dueThrow("back(0, 0, 0)", Check.ARGUMENT, () -> books.back(0, 0, 0));
        Check.dueThrow("reconcile(0, 0, 0)", Check.ARGUMENT, () -> books.reconcile(0, 0, 0) ? 1 : 0);
        Check.dueThrow("batch(0, 0)", Check.ARGUMENT, () -> books.batch(0, 0));
        Check.dueThrow("transfer(0, 0)", Check.ARGUMENT, () -> books.transfer(0, 0));
        Check.due("audit", 0, books.audit());
        Check.due("settle", 0, books.settle());
    }

    /** Promise 2: "An acquirer with its FEE: its number." */
    private static void anAcquirerAndItsNumber() {
        ClearingBooks books = new ClearingBooks();
        for (int p = 1; p < 15; p++) {
            Check.due("number", p, books.acquirer(1000 - p));
            Check.due("kind of " + p, 1, books.party(p, 2));
            Check.due("fee of " + p, 1000 - p, books.party(p, 3));
        }
    }

    /** Promise 2: "Illegal argument: it is not 0 .. 1000" */
    private static void aFeeIsZeroToAThousand() {
        ClearingBooks books = new ClearingBooks();
        Check.dueThrow("acquirer(-1)", Check.ARGUMENT, () -> books.acquirer(-1));
        Check.dueThrow("acquirer(1001)", Check.ARGUMENT, () -> books.acquirer(1001));
        for (int fee : FAR) {
            Check.dueThrow("acquirer(" + fee + ")", Check.ARGUMENT, () -> books.acquirer(fee));
        }
        Check.due("parties", 1, books.parties());
        Check.due("acquirer(0)", 1, books.acquirer(0));
        Check.due("acquirer(1)", 2, books.acquirer(1));
        Check.due("acquirer(999)", 3, books.acquirer(999));
        Check.due("acquirer(1000)", 4, books.acquirer(1000));
        Check.due("fee 0", 0, books.party(1, 3));
        Check.due("fee 1000", 1000, books.party(4, 3));
    }

    /** Promise 2: "illegal state: there are 15 parties" */
    private static void noAcquirerIfThereAreFifteenParties() {
        ClearingBooks books = Books.acquirersThenIssuers(0, 13);
        Check.due("the fifteenth", 14, books.acquirer(1000));
        Check.due("kind of it", 1, books.party(14, 2));
        Check.dueThrow("a sixteenth", Check.STATE, () -> books.acquirer(1000));
        Check.dueThrow("a sixteenth again", Check.STATE, () -> books.acquirer(0));
        Check.dueThrow("a sixteenth with a wrong fee", Check.ARGUMENT, () -> books.acquirer(-1));
        Check.due("parties", 15, books.parties());
        Check.due("fee of the fifteenth", 1000, books.party(14, 3));
    }

    /** Promise 3: "An issuer with its SHARE: its number." */
    private static void anIssuerAndItsNumber() {
        ClearingBooks books = new ClearingBooks();
        for (int p = 1; p < 15; p++) {
            Check.due("number", p, books.issuer(1000 - p));
            Check.due("kind of " + p, 2, books.party(p, 2));
            Check.due("share of " + p, 1000 - p, books.party(p, 3));
        }
    }

    /** Promise 3: "Illegal argument: it is not 0 .. 1000" */
    private static void aShareIsZeroToAThousand() {
        ClearingBooks books = new ClearingBooks();
        Check.dueThrow("issuer(-1)", Check.ARGUMENT, () -> books.issuer(-1));
        Check.dueThrow("issuer(1001)", Check.ARGUMENT, () -> books.issuer(1001));
        for (int share : FAR) {
            Check.dueThrow("issuer(" + share + ")", Check.ARGUMENT, () -> books.issuer(share));
        }
        Check.due("parties", 1, books.parties());
        Check.due("issuer(0)", 1, books.issuer(0));
        Check.due("issuer(1)", 2, books.issuer(1));
        Check.due("issuer(999)", 3, books.issuer(999));
        Check.due("issuer(1000)", 4, books.issuer(1000));
        Check.due("share 0", 0, books.party(1, 3));
        Check.due("share 1000", 1000, books.party(4, 3));
    }

    /** Promise 3: "illegal state: there are 15 parties" */
    private static void noIssuerIfThereAreFifteenParties() {
        ClearingBooks books = Books.acquirersThenIssuers(13, 0);
        Check.due("the fifteenth", 14, books.issuer(1000));
        Check.due("kind of it", 2, books.party(14, 2));
        Check.dueThrow("a sixteenth", Check.STATE, () -> books.issuer(1000));
        Check.dueThrow("a sixteenth again", Check.STATE, () -> books.issuer(0));
        Check.dueThrow("a sixteenth with a wrong share", Check.ARGUMENT, () -> books.issuer(1001));
        Check.due("parties", 15, books.parties());
        Check.due("share of the fifteenth", 1000, books.party(14, 3));
    }

    /** Promise 4: "x is cleared: c." - with the rates of the two that take part, and not of others. */
    private static void clearingAnswersTheCharge() {
        ClearingBooks books = new ClearingBooks();
        books.acquirer(100);
        books.issuer(200);
        books.issuer(3);
        books.acquirer(4);
        Check.due("clear(1, 2)", 300, books.clear(1, 2, 10000));
        Check.due("clear(4, 3)", 7, books.clear(4, 3, 10000));
        Check.due("clear(1, 3)", 103, books.clear(1, 3, 10000));
        Check.due("clear(4, 2)", 204, books.clear(4, 2, 10000));
        Books.duePositions("cleared", books, 208, 19597, -19600, -19994, 19789);
    }

    /** Promise 4: "Illegal argument: also if x is not 1 .. 10^12." */
    private static void clearedIsOneToTheMost() {
        ClearingBooks books = Books.pair(10, 10);
        long[] outside = {0, -1, -MOST, MOST + 1, 2 * MOST, 1L << 62, Long.MIN_VALUE, Long.MAX_VALUE, -1L << 32};
        for (long x : outside) {
            Check.dueThrow("clear " + x, Check.ARGUMENT, () -> books.clear(1, 2, x));
        }
        Books.duePositions("nothing is cleared", books, 0, 0, 0);
        Books.dueBatch(books, 1, 0, 0);
        Check.due("clear 1", 1, books.clear(1, 2, 1));
        Check.due("clear the most", 2000000000L, books.clear(1, 2, MOST));
        Books.dueBatch(books, 1, 2, MOST + 1);
    }

    /** Promise 5: "x goes back, or forth (below 0): the acquirer's position then." */
    private static void backAnswersTheAcquirersPositionThen() {
        ClearingBooks books = Books.pair(0, 0);
        Check.due("0 back", 0, books.back(1, 2, 0));
        Check.due("1 back", -1, books.back(1, 2, 1));
        Check.due("1 forth", 0, books.back(1, 2, -1));
        Check.due("1 forth again", 1, books.back(1, 2, -1));
        Books.duePositions("forth", books, 0, 1, -1);
        books.settle();
        Check.due("0 back after settling", 0, books.back(1, 2, 0));
        books.clear(1, 2, 40);
        Check.due("back of what is cleared", 10, books.back(1, 2, 30));
        Books.dueBatch(books, 1, 1, 40);
    }

    /** Promise 5: "Illegal argument: also if x is not -10^12 .. 10^12." */
    private static void backIsFromMinusTheMostToTheMost() {
        ClearingBooks books = Books.pair(10, 10);
        for (long x : new long[] {MOST + 1, -MOST - 1, 1L << 62, Long.MIN_VALUE, Long.MIN_VALUE + 1, Long.MAX_VALUE}) {
            Check.dueThrow("back " + x, Check.ARGUMENT, () -> books.back(1, 2, x));
        }
        Books.duePositions("nothing went back", books, 0, 0, 0);
        Check.due("the most back", -MOST, books.back(1, 2, MOST));
        Books.duePositions("the most back", books, 0, -MOST, MOST);
        Check.due("the most forth", 0, books.back(1, 2, -MOST));
        Check.due("the most forth again", MOST, books.back(1, 2, -MOST));
        Books.duePositions("the most forth", books, 0, MOST, -MOST);
    }

    /** Promise 6: "An acquirer's batch is empty from now on if it has so many amounts with this sum: whether it had." */
    private static void reconciledIsEmptyFromNowOn() {
        ClearingBooks books = Books.pair(10, 10);
        books.clear(1, 2, MOST);
        books.clear(1, 2, 1);
        Books.duePositions("before", books, 1000000001L, MOST - 2000000000L, -MOST + 999999999L);
        Books.dueReconcile(books, true, 1, 2, MOST + 1);
        Books.dueBatch(books, 1, 0, 0);
        Books.duePositions("after", books, 1000000001L, MOST - 2000000000L, -MOST + 999999999L);
        Books.dueReconcile(books, false, 1, 2, MOST + 1);
        books.clear(1, 2, 3);
        Books.dueBatch(books, 1, 1, 3);
        Books.dueReconcile(books, true, 1, 1, 3);
    }

    /** Promise 6: if it has not, it stays as it is; count and sum have no bounds of their own. */
    private static void notReconciledStays() {
        ClearingBooks books = Books.pair(0, 0);
        books.clear(1, 2, 5);
        books.clear(1, 2, 5);
        for (int count : new int[] {1, 3, 0, -1, -2, Integer.MIN_VALUE, Integer.MAX_VALUE}) {
            Books.dueReconcile(books, false, 1, count, 10);
        }
        for (long sum : new long[] {9, 11, 0, -10, 10 + (1L << 32), Long.MIN_VALUE, Long.MAX_VALUE}) {
            Books.dueReconcile(books, false, 1, 2, sum);
        }
        Books.dueReconcile(books, false, 1, 10, 2);
        Books.dueReconcile(books, false, 1, 1, 5);
        Books.dueReconcile(books, false, 1, 0, 0);
        Books.dueBatch(books, 1, 2, 10);
        Books.dueReconcile(books, true, 1, 2, 10);
    }

    /** Promise 6: a batch that is empty has 0 amounts with the sum 0. */
    private static void anEmptyBatchHasNoneWithSumZero() {
        ClearingBooks books = Books.pair(0, 0);
        Books.dueReconcile(books, true, 1, 0, 0);
        Books.dueReconcile(books, false, 1, 0, 1);
        Books.dueReconcile(books, false, 1, 0, -1);
        Books.dueReconcile(books, false, 1, 1, 0);
        Books.dueReconcile(books, false, 1, -1, 0);
        books.back(1, 2, 8);
        Books.dueReconcile(books, false, 1, 1, 8);
        Books.dueReconcile(books, true, 1, 0, 0);
        Books.dueBatch(books, 1, 0, 0);
    }

    /** Promise 6: "Illegal argument." - and another acquirer's batch is left alone. */
    private static void reconcilingIsOfAnAcquirerAlone() {
        ClearingBooks books = new ClearingBooks();
        books.acquirer(0);
        books.issuer(0);
        books.acquirer(0);
        books.clear(1, 2, 6);
        books.clear(3, 2, 6);
        for (int p : new int[] {0, 2, 4, -1, 15}) {
            Check.dueThrow("reconcile of " + p, Check.ARGUMENT, () -> books.reconcile(p, 1, 6) ? 1 : 0);
            Check.dueThrow("reconcile none of " + p, Check.ARGUMENT, () -> books.reconcile(p, 0, 0) ? 1 : 0);
        }
        Books.dueReconcile(books, true, 3, 1, 6);
        Books.dueBatch(books, 3, 0, 0);
        Books.dueBatch(books, 1, 1, 6);
    }

    /** Promise 7: "what = 0 how many amounts, 1 their sum. Illegal argument: also if what is none of these." */
    private static void ofABatchCountOrSum() {
        ClearingBooks books = Books.pair(0, 0);
        books.clear(1, 2, 9);
        books.clear(1, 2, 9);
        Check.due("how many", 2, books.batch(1, 0));
        Check.due("sum", 18, books.batch(1, 1));
        for (int what : new int[] {-1, 2, 3, 256, 257}) {
            Check.dueThrow("batch(1, " + what + ")", Check.ARGUMENT, () -> books.batch(1, what));
        }
        for (int what : FAR) {
            Check.dueThrow("batch(1, " + what + ")", Check.ARGUMENT, () -> books.batch(1, what));
        }
        Check.dueThrow("both wrong", Check.ARGUMENT, () -> books.batch(2, 2));
    }

    /** Promise 8: "SETTLING: how many transfers." */
    private static void settlingAnswersHowManyTransfers() {
        ClearingBooks books = Books.acquirersThenIssuers(7, 7);
        Check.due("none", 0, books.settle());
        for (int pairs = 1; pairs <= 7; pairs++) {
            for (int p = 1; p <= pairs; p++) {
                books.back(p, p + 7, p);
            }
            Check.due("pairs", pairs, books.settle());
            Check.due("the last one", pairs, books.transfer(0, 2));
            Check.due("and none is left", 0, books.settle());
        }
    }

    /** Promise 8: 15 parties, of whom each transfer makes one even at least and the last one two. */
    private static void atMostFourteenTransfers() {
        ClearingBooks one = Books.acquirersThenIssuers(1, 13);
        for (int p = 2; p <= 14; p++) {
            one.back(1, p, p);
        }
        Check.due("one pays 13", 13, one.settle());
        Books.dueTransfer(one, 0, 1, 14, 14);
        Books.dueTransfer(one, 12, 1, 2, 2);
        ClearingBooks all = new ClearingBooks();
        all.acquirer(1000);
        for (int p = 2; p <= 14; p++) {
            all.issuer(0);
            all.clear(1, p, 10);
        }
        Books.duePositions("all are off 0", all, 13, 117, -10, -10);
        Check.due("13 pay two", 14, all.settle());
        for (int k = 0; k <= 10; k++) {
            Books.dueTransfer(all, k, k + 2, 1, 10);
        }
        Books.dueTransfer(all, 11, 13, 0, 10);
        Books.dueTransfer(all, 12, 14, 1, 7);
        Books.dueTransfer(all, 13, 14, 0, 3);
        Check.dueThrow("a fifteenth", Check.ARGUMENT, () -> all.transfer(14, 0));
    }

    /** Promise 9: "what = 0 who pays, 1 to whom, 2 how much" */
    private static void ofATransferPayerPayeeAmount() {
        ClearingBooks books = Books.acquirersThenIssuers(1, 1);
        books.back(1, 2, MOST);
        books.back(1, 2, MOST);
        books.settle();
        Check.due("who pays", 1, books.transfer(0, 0));
        Check.due("to whom", 2, books.transfer(0, 1));
        Check.due("how much", 2 * MOST, books.transfer(0, 2));
    }

    /** Promise 9: "Illegal argument: there is none such" */
    private static void thereIsNoneSuchTransfer() {
        ClearingBooks books = Books.acquirersThenIssuers(1, 2);
        Check.dueThrow("before any settling", Check.ARGUMENT, () -> books.transfer(0, 0));
        books.back(1, 2, 3);
        Check.dueThrow("before its settling", Check.ARGUMENT, () -> books.transfer(0, 0));
        books.back(1, 3, 4);
        books.settle();
        for (int k : new int[] {ClearingBooks.NONE, 2, 3, 13, 14, 15}) {
            Check.dueThrow("transfer(" + k + ", 0)", Check.ARGUMENT, () -> books.transfer(k, 0));
        }
        for (int k : FAR) {
            Check.dueThrow("transfer(" + k + ", 2)", Check.ARGUMENT, () -> books.transfer(k, 2));
        }
        Books.dueTransfer(books, 0, 1, 3, 4);
        Books.dueTransfer(books, 1, 1, 2, 3);
        books.settle();
        Check.dueThrow("after a settling of none", Check.ARGUMENT, () -> books.transfer(0, 0));
    }

    /** Promise 9: "or what is none of these" */
    private static void ofATransferWhatIsNoneOfThese() {
        ClearingBooks books = Books.acquirersThenIssuers(1, 1);
        books.back(1, 2, 3);
        books.settle();
        for (int what : new int[] {-1, 3, 4, 256}) {
            Check.dueThrow("transfer(0, " + what + ")", Check.ARGUMENT, () -> books.transfer(0, what));
            Check.dueThrow("transfer(1, " + what + ")", Check.ARGUMENT, () -> books.transfer(1, what));
        }
        for (int what : FAR) {
            Check.dueThrow("transfer(0, " + what + ")", Check.ARGUMENT, () -> books.transfer(0, what));
        }
    }

    /** Promise 10: "what = 0 its position, 1 what is settled, 2 its kind .. 3 its fee or share .. 4 the place" */
    private static void ofAPartyFiveThings() {
        ClearingBooks books = Books.pair(300, 400);
        books.clear(1, 2, 100);
        books.settle();
        books.clear(1, 2, 1000);
        long[][] due = {{30, 3, 0, 0, 1}, {930, 93, 1, 300, 0}, {-960, -96, 2, 400, 2}};
        for (int p = 0; p < due.length; p++) {
            for (int what = 0; what < due[p].length; what++) {
                Check.due("party(" + p + ", " + what + ")", due[p][what], books.party(p, what));
            }
        }
    }

    /** Promise 10: "its fee or share (0 of the house)" */
    private static void theHouseHasNoFeeAndNoShare() {
        ClearingBooks books = Books.pair(1000, 1000);
        books.clear(1, 2, 5000);
        Check.due("rate of the house", 0, books.party(0, 3));
        Check.due("kind of the house", 0, books.party(0, 2));
        Check.due("fee", 1000, books.party(1, 3));
        Check.due("share", 1000, books.party(2, 3));
    }

    /** Promise 10: "the place that its position has among all from the greatest to the least .. from 0 on" */
    private static void placesFromTheGreatestToTheLeast() {
        ClearingBooks books = new ClearingBooks();
        books.acquirer(0);
        for (int p = 2; p <= 14; p++) {
            books.issuer(0);
            books.back(1, p, p);
        }
        Books.duePlaces("rising", books, 13, 14, 12, 11, 10, 9, 8, 7, 6, 5, 4, 3, 2, 1, 0);
        for (int p = 2; p <= 14; p++) {
            books.back(1, p, -2 * p);
        }
        Books.duePlaces("falling", books, 1, 0, 2, 3, 4, 5, 6, 7, 8, 9, 10, 11, 12, 13, 14);
    }

    /** Promise 10: "(of alike ones the first party first)" */
    private static void placesOfAlikeOnes() {
        ClearingBooks books = Books.acquirersThenIssuers(7, 7);
        Books.duePlaces("all alike", books, 0, 1, 2, 3, 4, 5, 6, 7, 8, 9, 10, 11, 12, 13, 14);
        for (int p = 7; p >= 1; p--) {
            books.back(p, p + 7, 1);
        }
        Books.duePlaces("two kinds", books, 7, 8, 9, 10, 11, 12, 13, 14, 0, 1, 2, 3, 4, 5, 6);
        books.settle();
        Books.duePlaces("settled", books, 0, 1, 2, 3, 4, 5, 6, 7, 8, 9, 10, 11, 12, 13, 14);
        books.back(7, 14, 0);
        books.back(7, 8, -MOST);
        Books.duePlaces("first and last", books, 1, 2, 3, 4, 5, 6, 7, 0, 14, 8, 9, 10, 11, 12, 13);
    }

    /** Promise 10: "Illegal argument: also if what is none of these." */
    private static void ofAPartyWhatIsNoneOfThese() {
        ClearingBooks books = Books.pair(0, 0);
        for (int p = 0; p <= 3; p++) {
            final int party = p;
            for (int what : new int[] {-1, 5, 6, 256, Integer.MIN_VALUE, Integer.MAX_VALUE}) {
                Check.dueThrow("party(" + p + ", " + what + ")", Check.ARGUMENT, () -> books.party(party, what));
            }
        }
    }

    /** Promise 11: "How many parties there are." */
    private static void howManyPartiesThereAre() {
        ClearingBooks books = new ClearingBooks();
        for (int p = 1; p < 15; p++) {
            Check.due("parties", p, books.parties());
            Check.dueThrow("a refused one", Check.ARGUMENT, () -> books.acquirer(-1));
            Check.due("parties still", p, books.parties());
            Check.due("one more", p, p % 2 == 0 ? books.acquirer(p) : books.issuer(p));
        }
        Check.due("parties at most", 15, books.parties());
        Check.dueThrow("one too many", Check.STATE, () -> books.issuer(1));
        books.settle();
        Check.due("parties in the end", 15, books.parties());
    }
}
