/** A test for each sentence of the document's "Terms" that names a boundary case; the sentence stands above it. */
public final class TermsEdgesTest {
    private static final long MOST = 1000000000000L;

    public static void main(String[] args) {
        fifteenPartiesWithTheHouse();
        positionAndSettledAreAtFirstZero();
        aBatchIsAtFirstNoneAndZero();
        theChargeIsRoundedUp();
        theChargeIsRoundedOnceForShareAndFeeTogether();
        theShareIsRoundedDown();
        theGreatestProductsDoNotWrapAround();
        theRemaindersGoToTheHouse();
        theBatchHasOneMoreAndItsSumGrows();
        aSumGrowsBeyondAnInt();
        goingBackTouchesAcquirerAndIssuerAlone();
        positionsComeToWhatIsSettledAndAreZero();
        settlingAnewAddsToWhatIsSettled();
        aWholeRunOfTheGreatestAmounts();
        noTransferIfNoneIsBelowZero();
        oneBelowZeroIsEnoughForATransfer();
        ofSeveralLeastTheFirstPays();
        ofSeveralGreatestTheFirstIsPaid();
        theHouseIsTheFirstOfAlikeOnes();
        alikeOnesThatComeAboutOnTheWay();
        asMuchAsTheLesserOfBothIsOffZero();
        transfersAreToldInTheirOrder();
        transfersStayUntilTheNextSettling();
        aNumberOutOfItsBounds();
        noSuchParty();
        notOfTheKindThatIsMeant();
        ofSeveralExceptionsTheFirst();
        aRefusedCallChangesNothing();
        aRefusedCallChangesNothingInAFullObject();
        noneIsMinusOne();
        Check.end();
    }

    /** "PARTIES are 0 (the HOUSE) and, as they come, 1, 2, .. (15 at most with it)" */
    private static void fifteenPartiesWithTheHouse() {
        for (int every = 1; every <= 15; every++) {
            ClearingBooks books = new ClearingBooks();
            for (int p = 1; p <= 14; p++) {
                Check.due("party every " + every, p, p % every == 0 ? books.issuer(p) : books.acquirer(p));
            }
            Check.dueThrow("a sixteenth, acquirer", Check.STATE, () -> books.acquirer(0));
            Check.dueThrow("a sixteenth, issuer", Check.STATE, () -> books.issuer(0));
            Check.due("parties", 15, books.parties());
            for (int p = 1; p <= 14; p++) {
                Check.due("kind of " + p, p % every == 0 ? 2 : 1, books.party(p, 2));
                Check.due("rate of " + p, p, books.party(p, 3));
            }
        }
    }

    /** "Each party has a POSITION and what is SETTLED, at first 0" */
    private static void positionAndSettledAreAtFirstZero() {
        ClearingBooks books = new ClearingBooks();
        dueNothingYet(books, 0);
        dueNothingYet(books, books.acquirer(1000));
        dueNothingYet(books, books.issuer(1000));
        for (int late = 3; late < 15; late++) {
            books.clear(1, 2, 1000 * late);
            books.settle();
            books.clear(1, 2, 999 * late);
            dueNothingYet(books, late % 2 == 0 ? books.issuer(1000) : books.acquirer(1000));
        }
    }

    private static void dueNothingYet(ClearingBooks books, int party) {
        Check.due("position at first of " + party, 0, books.party(party, 0));
        Check.due("settled at first of " + party, 0, books.party(party, 1));
    }

    /** "an acquirer has a BATCH, of a number of amounts and their sum, at first none and 0" */
    private static void aBatchIsAtFirstNoneAndZero() {
        ClearingBooks books = new ClearingBooks();
        books.acquirer(5);
        books.issuer(5);
        books.clear(1, 2, 77);
        for (int late = 3; late < 15; late++) {
            Books.dueBatch(books, books.acquirer(5), 0, 0);
            books.clear(late, 2, 78);
        }
        Books.dueBatch(books, 1, 1, 77);
        Books.dueBatch(books, 14, 1, 78);
    }

    /** "c is x * (s + f) / 10000, rounded up" */
    private static void theChargeIsRoundedUp() {
        dueCharge(0, 0, 1, 0);
        dueCharge(0, 0, MOST, 0);
        dueCharge(1, 0, 1, 1);
        dueCharge(0, 1, 1, 1);
        dueCharge(1, 0, 9999, 1);
        dueCharge(1, 0, 10000, 1);
        dueCharge(1, 0, 10001, 2);
        dueCharge(1, 0, 19999, 2);
        dueCharge(1, 0, 20000, 2);
        dueCharge(1000, 1000, 4, 1);
        dueCharge(1000, 1000, 5, 1);
        dueCharge(1000, 1000, 6, 2);
        dueCharge(3, 4, 9999, 7);
        dueCharge(3, 4, 10000, 7);
        dueCharge(3, 4, 10001, 8);
    }

    /** The same: s + f comes before the rounding. */
    private static void theChargeIsRoundedOnceForShareAndFeeTogether() {
        dueCharge(1, 1, 5000, 1);
        dueCharge(1, 1, 1, 1);
        dueCharge(1, 1, 5001, 2);
        dueCharge(500, 500, 10, 1);
    }

    private static void dueCharge(int fee, int share, long x, long charge) {
        ClearingBooks books = Books.pair(fee, share);
        String of = " of " + x + " with fee " + fee + " and share " + share;
        Check.due("charge" + of, charge, books.clear(1, 2, x));
        Check.due("acquirer" + of, x - charge, books.party(1, 0));
    }

    /** "i is x * s / 10000, rounded down .. the issuer's by i - x" */
    private static void theShareIsRoundedDown() {
        dueShare(0, 1, 0);
        dueShare(0, MOST, 0);
        dueShare(1, 1, 0);
        dueShare(1, 9999, 0);
        dueShare(1, 10000, 1);
        dueShare(1, 10001, 1);
        dueShare(1, 19999, 1);
        dueShare(1, 20000, 2);
        dueShare(1000, 9, 0);
        dueShare(1000, 10, 1);
        dueShare(1000, 19, 1);
        dueShare(999, 10, 0);
    }

    private static void dueShare(int share, long x, long kept) {
        ClearingBooks books = Books.pair(1000, share);
        books.clear(1, 2, x);
        Check.due("issuer of " + x + " with share " + share, kept - x, books.party(2, 0));
    }

    /** The greatest x with the greatest s + f: 2 * 10^15 before it is divided. */
    private static void theGreatestProductsDoNotWrapAround() {
        ClearingBooks most = Books.pair(1000, 1000);
        Check.due("charge of the most", 200000000000L, most.clear(1, 2, MOST));
        Books.duePositions("the most", most, 100000000000L, 800000000000L, -900000000000L);
        ClearingBooks less = Books.pair(1000, 1000);
        Check.due("charge of one less", 200000000000L, less.clear(1, 2, MOST - 1));
        Books.duePositions("one less", less, 100000000001L, 799999999999L, -900000000000L);
        ClearingBooks odd = Books.pair(999, 999);
        Check.due("charge of odd rates", 199800000000L, odd.clear(1, 2, MOST - 1));
        Books.duePositions("odd rates", odd, 99900000001L, 800199999999L, -900100000000L);
    }

    /** "the house's by c - i" */
    private static void theRemaindersGoToTheHouse() {
        ClearingBooks none = Books.pair(0, 0);
        none.clear(1, 2, 9999);
        Books.duePositions("nothing for the house", none, 0, 9999, -9999);
        ClearingBooks even = Books.pair(0, 1000);
        even.clear(1, 2, 10);
        Books.duePositions("no remainder", even, 0, 9, -9);
        ClearingBooks remainder = Books.pair(0, 1000);
        remainder.clear(1, 2, 11);
        Books.duePositions("a remainder alone", remainder, 1, 9, -10);
        ClearingBooks fee = Books.pair(1000, 0);
        fee.clear(1, 2, 10);
        Books.duePositions("a fee alone", fee, 1, 9, -10);
        ClearingBooks all = Books.pair(1000, 1000);
        all.clear(1, 2, 1);
        Books.duePositions("one is all the house's", all, 1, 0, -1);
    }

    /** "the batch has one more, and its sum grows by x" */
    private static void theBatchHasOneMoreAndItsSumGrows() {
        ClearingBooks books = Books.pair(1000, 1000);
        books.clear(1, 2, 1);
        Books.dueBatch(books, 1, 1, 1);
        books.clear(1, 2, MOST);
        Books.dueBatch(books, 1, 2, MOST + 1);
        books.clear(1, 2, 1);
        Books.dueBatch(books, 1, 3, MOST + 2);
    }

    /** The same, where an int would wrap around. */
    private static void aSumGrowsBeyondAnInt() {
        ClearingBooks books = Books.pair(0, 0);
        books.clear(1, 2, Integer.MAX_VALUE);
        books.clear(1, 2, 1);
        Books.dueBatch(books, 1, 2, 2147483648L);
        Books.duePositions("2^31", books, 0, 2147483648L, -2147483648L);
        books.clear(1, 2, 2147483648L);
        Books.dueBatch(books, 1, 3, 4294967296L);
        Books.duePositions("2^32", books, 0, 4294967296L, -4294967296L);
        Check.due("charge of 2^32 + 1", 4294968L, Books.pair(0, 10).clear(1, 2, 4294967297L));
        Check.due("charge beyond an int", 4294967297L, Books.pair(0, 1000).clear(1, 2, 42949672970L));
    }

    /** "BACK, x: the acquirer's position is less by x, the issuer's grows by it." */
    private static void goingBackTouchesAcquirerAndIssuerAlone() {
        ClearingBooks books = new ClearingBooks();
        books.acquirer(1000);
        books.issuer(1000);
        books.acquirer(1000);
        books.issuer(1000);
        books.back(3, 4, 10001);
        long[] due = {0, 0, 0, -10001, 10001};
        for (int p = 0; p < due.length; p++) {
            Check.due("position of " + p, due[p], books.party(p, 0));
            Check.due("settled of " + p, 0, books.party(p, 1));
        }
        Books.dueBatch(books, 1, 0, 0);
        Books.dueBatch(books, 3, 0, 0);
    }

    /** "SETTLING: what positions are comes to what is settled, and they are 0." */
    private static void positionsComeToWhatIsSettledAndAreZero() {
        ClearingBooks books = new ClearingBooks();
        books.acquirer(1000);
        for (int p = 2; p < 15; p++) {
            books.issuer(1000);
            books.clear(1, p, 10 * p);
        }
        long[] before = new long[15];
        for (int p = 0; p < 15; p++) {
            before[p] = books.party(p, 0);
        }
        books.settle();
        for (int p = 0; p < 15; p++) {
            Check.due("position of " + p, 0, books.party(p, 0));
            Check.due("settled of " + p, before[p], books.party(p, 1));
        }
        Check.due("issuer 14 was below 0", -126, before[14]);
    }

    /** The same: what is settled keeps what came before, and nothing comes of positions that are 0. */
    private static void settlingAnewAddsToWhatIsSettled() {
        ClearingBooks books = Books.pair(1000, 0);
        books.clear(1, 2, 10);
        books.settle();
        Books.dueSettled("once", books, 1, 9, -10);
        books.settle();
        Books.dueSettled("with nothing new", books, 1, 9, -10);
        books.back(1, 2, 15);
        Books.dueSettled("not yet", books, 1, 9, -10);
        books.settle();
        Books.dueSettled("through 0", books, 1, -6, 5);
        books.back(1, 2, -6);
        books.settle();
        Books.dueSettled("to 0", books, 1, 0, -1);
    }

    /** "An object is used for at most 512 calls": the greatest sums that they can bring, the 512th call with them. */
    private static void aWholeRunOfTheGreatestAmounts() {
        ClearingBooks books = Books.pair(0, 0);
        for (int call = 3; call <= 502; call++) {
            books.clear(1, 2, MOST);
        }
        Books.dueBatch(books, 1, 500, 500 * MOST);
        Check.due("position", -500 * MOST, books.party(2, 0));
        Check.due("transfers", 1, books.settle());
        Books.dueTransfer(books, 0, 2, 1, 500 * MOST);
        Check.due("settled", 500 * MOST, books.party(1, 1));
        Check.due("call 511", 0, books.audit());
        Check.due("call 512", 1, books.reconcile(1, 500, 500 * MOST) ? 1 : 0);
    }

    /** "as long as one is below 0": none is. */
    private static void noTransferIfNoneIsBelowZero() {
        Check.due("the house alone", 0, new ClearingBooks().settle());
        ClearingBooks books = Books.pair(1000, 1000);
        Check.due("nothing cleared", 0, books.settle());
        books.back(1, 2, 0);
        Check.due("0 back", 0, books.settle());
        books.back(1, 2, 7);
        books.back(1, 2, -7);
        Check.due("back and forth", 0, books.settle());
        Check.dueThrow("no transfer", Check.ARGUMENT, () -> books.transfer(0, 0));
    }

    /** "as long as one is below 0": by 1. */
    private static void oneBelowZeroIsEnoughForATransfer() {
        ClearingBooks back = Books.pair(0, 0);
        back.back(1, 2, 1);
        Check.due("an acquirer below 0", 1, back.settle());
        Books.dueTransfer(back, 0, 1, 2, 1);
        ClearingBooks forth = Books.pair(0, 0);
        forth.back(1, 2, -1);
        Check.due("an issuer below 0", 1, forth.settle());
        Books.dueTransfer(forth, 0, 2, 1, 1);
        ClearingBooks house = Books.pair(1000, 1000);
        house.clear(1, 2, 1);
        Check.due("the house is paid", 1, house.settle());
        Books.dueTransfer(house, 0, 2, 0, 1);
    }

    /** "the party with the least one (of several the first one) pays" */
    private static void ofSeveralLeastTheFirstPays() {
        ClearingBooks books = Books.acquirersThenIssuers(1, 13);
        for (int p = 14; p >= 2; p--) {
            books.back(1, p, -4);
        }
        Check.due("transfers", 13, books.settle());
        for (int k = 0; k < 13; k++) {
            Books.dueTransfer(books, k, k + 2, 1, 4);
        }
    }

    /** "the party with the greatest one (likewise)" */
    private static void ofSeveralGreatestTheFirstIsPaid() {
        ClearingBooks books = Books.acquirersThenIssuers(13, 1);
        for (int p = 13; p >= 1; p--) {
            books.back(p, 14, -4);
        }
        Check.due("transfers", 13, books.settle());
        for (int k = 0; k < 13; k++) {
            Books.dueTransfer(books, k, 14, k + 1, 4);
        }
    }

    /** The same: party 0 is the first one. */
    private static void theHouseIsTheFirstOfAlikeOnes() {
        ClearingBooks books = Books.pair(1000, 0);
        books.clear(1, 2, 10);
        books.back(1, 2, 8);
        Books.duePositions("alike", books, 1, 1, -2);
        Check.due("transfers", 2, books.settle());
        Books.dueTransfer(books, 0, 2, 0, 1);
        Books.dueTransfer(books, 1, 2, 1, 1);
    }

    /** The same, of positions that are alike only after a transfer. */
    private static void alikeOnesThatComeAboutOnTheWay() {
        ClearingBooks payers = Books.acquirersThenIssuers(4, 2);
        payers.back(1, 6, -2);
        payers.back(2, 6, -2);
        payers.back(3, 6, -1);
        payers.back(3, 5, -1);
        payers.back(4, 5, -2);
        Books.duePositions("payers", payers, 0, 2, 2, 2, 2, -3, -5);
        Check.due("transfers", 5, payers.settle());
        Books.dueTransfer(payers, 0, 6, 1, 2);
        Books.dueTransfer(payers, 1, 5, 2, 2);
        Books.dueTransfer(payers, 2, 6, 3, 2);
        Books.dueTransfer(payers, 3, 5, 4, 1);
        Books.dueTransfer(payers, 4, 6, 4, 1);
        ClearingBooks payees = Books.acquirersThenIssuers(2, 4);
        payees.back(2, 3, -2);
        payees.back(2, 4, -2);
        payees.back(2, 5, -1);
        payees.back(1, 5, -1);
        payees.back(1, 6, -2);
        Books.duePositions("payees", payees, 0, 3, 5, -2, -2, -2, -2);
        Check.due("transfers", 5, payees.settle());
        Books.dueTransfer(payees, 0, 3, 2, 2);
        Books.dueTransfer(payees, 1, 4, 1, 2);
        Books.dueTransfer(payees, 2, 5, 2, 2);
        Books.dueTransfer(payees, 3, 6, 1, 1);
        Books.dueTransfer(payees, 4, 6, 2, 1);
    }

    /** "as much as the lesser of both is off 0; both are nearer to 0 by it" */
    private static void asMuchAsTheLesserOfBothIsOffZero() {
        ClearingBooks payer = Books.acquirersThenIssuers(1, 2);
        payer.back(1, 2, -7);
        payer.back(1, 3, -6);
        Check.due("the payer is nearer to 0", 2, payer.settle());
        Books.dueTransfer(payer, 0, 2, 1, 7);
        Books.dueTransfer(payer, 1, 3, 1, 6);
        ClearingBooks payee = Books.acquirersThenIssuers(2, 1);
        payee.back(1, 3, -6);
        payee.back(2, 3, -7);
        Check.due("the payee is nearer to 0", 2, payee.settle());
        Books.dueTransfer(payee, 0, 3, 2, 7);
        Books.dueTransfer(payee, 1, 3, 1, 6);
        ClearingBooks alike = Books.acquirersThenIssuers(1, 1);
        alike.back(1, 2, -7);
        Check.due("both are 0 by one transfer", 1, alike.settle());
        Books.dueTransfer(alike, 0, 2, 1, 7);
    }

    /** "Transfers of the latest settling are told in the order in which they are made." */
    private static void transfersAreToldInTheirOrder() {
        ClearingBooks books = Books.acquirersThenIssuers(3, 3);
        books.back(1, 6, -10);
        books.back(2, 4, -20);
        books.back(3, 5, -30);
        Check.due("transfers", 3, books.settle());
        Books.dueTransfer(books, 0, 5, 3, 30);
        Books.dueTransfer(books, 1, 4, 2, 20);
        Books.dueTransfer(books, 2, 6, 1, 10);
    }

    /** The same: of the latest settling, which may have had fewer or none. */
    private static void transfersStayUntilTheNextSettling() {
        ClearingBooks books = Books.acquirersThenIssuers(2, 2);
        books.back(1, 3, -10);
        books.back(2, 4, -20);
        Check.due("two", 2, books.settle());
        books.clear(1, 4, 500);
        books.back(2, 3, 60);
        books.reconcile(1, 1, 500);
        books.acquirer(1);
        Books.dueTransfer(books, 0, 4, 2, 20);
        Books.dueTransfer(books, 1, 3, 1, 10);
        books.back(1, 4, 500);
        books.back(2, 3, -60);
        books.back(1, 3, 1);
        Check.due("one", 1, books.settle());
        Books.dueTransfer(books, 0, 1, 3, 1);
        Check.dueThrow("the second of one", Check.ARGUMENT, () -> books.transfer(1, 2));
        Check.due("none", 0, books.settle());
        Check.dueThrow("the first of none", Check.ARGUMENT, () -> books.transfer(0, 2));
    }

    /** "In all calls illegal argument: a number is out of its bounds" */
    private static void aNumberOutOfItsBounds() {
        ClearingBooks books = Books.pair(0, 0);
        books.back(1, 2, 1);
        books.settle();
        dueArgument("fee", () -> books.acquirer(-1), () -> books.acquirer(1001));
        dueArgument("share", () -> books.issuer(-1), () -> books.issuer(1001));
        dueArgument("x of clear", () -> books.clear(1, 2, 0), () -> books.clear(1, 2, MOST + 1));
        dueArgument("x of back", () -> books.back(1, 2, -MOST - 1), () -> books.back(1, 2, MOST + 1));
        dueArgument("what of batch", () -> books.batch(1, -1), () -> books.batch(1, 2));
        dueArgument("k of transfer", () -> books.transfer(-1, 0), () -> books.transfer(1, 0));
        dueArgument("what of transfer", () -> books.transfer(0, -1), () -> books.transfer(0, 3));
        dueArgument("what of party", () -> books.party(0, -1), () -> books.party(0, 5));
    }

    private static void dueArgument(String of, Check.Call tooSmall, Check.Call tooLarge) {
        Check.dueThrow(of + ", too small", Check.ARGUMENT, tooSmall);
        Check.dueThrow(of + ", too large", Check.ARGUMENT, tooLarge);
    }

    /** "there is no such party" */
    private static void noSuchParty() {
        ClearingBooks few = Books.pair(0, 0);
        for (int none : new int[] {ClearingBooks.NONE, 3, 4, 14, 15, 16, Integer.MIN_VALUE, Integer.MAX_VALUE}) {
            dueNoParty(few, none);
        }
        Check.due("it comes", 3, few.acquirer(0));
        Check.due("and is there", 1, few.party(3, 2));
        Check.due("with a batch", 0, few.batch(3, 0));
        ClearingBooks full = Books.acquirersThenIssuers(1, 13);
        for (int none : new int[] {ClearingBooks.NONE, 15, 16, Integer.MIN_VALUE, Integer.MAX_VALUE}) {
            dueNoParty(full, none);
        }
        Check.due("the last one is there", 2, full.party(14, 2));
        Check.due("and takes part", -5, full.back(1, 14, 5));
    }

    private static void dueNoParty(ClearingBooks books, int none) {
        String call = " with party " + none;
        Check.dueThrow("clear, acquirer" + call, Check.ARGUMENT, () -> books.clear(none, 2, 1));
        Check.dueThrow("clear, issuer" + call, Check.ARGUMENT, () -> books.clear(1, none, 1));
        Check.dueThrow("back, acquirer" + call, Check.ARGUMENT, () -> books.back(none, 2, 1));
        Check.dueThrow("back, issuer" + call, Check.ARGUMENT, () -> books.back(1, none, 1));
        Check.dueThrow("reconcile" + call, Check.ARGUMENT, () -> books.reconcile(none, 0, 0) ? 1 : 0);
        Check.dueThrow("batch" + call, Check.ARGUMENT, () -> books.batch(none, 0));
        for (int what = 0; what <= 4; what++) {
            final int told = what;
            Check.dueThrow("party" + call + ", " + what, Check.ARGUMENT, () -> books.party(none, told));
        }
    }

    /** "or it is not of the kind that is meant" */
    private static void notOfTheKindThatIsMeant() {
        ClearingBooks books = Books.pair(0, 0);
        for (int p : new int[] {0, 2}) {
            Check.dueThrow("clear, acquirer " + p, Check.ARGUMENT, () -> books.clear(p, 2, 1));
            Check.dueThrow("back, acquirer " + p, Check.ARGUMENT, () -> books.back(p, 2, 1));
            Check.dueThrow("reconcile " + p, Check.ARGUMENT, () -> books.reconcile(p, 0, 0) ? 1 : 0);
            Check.dueThrow("batch " + p, Check.ARGUMENT, () -> books.batch(p, 0));
        }
        for (int p : new int[] {0, 1}) {
            Check.dueThrow("clear, issuer " + p, Check.ARGUMENT, () -> books.clear(1, p, 1));
            Check.dueThrow("back, issuer " + p, Check.ARGUMENT, () -> books.back(1, p, 1));
        }
        Check.dueThrow("clear, changed about", Check.ARGUMENT, () -> books.clear(2, 1, 1));
        Check.dueThrow("back, changed about", Check.ARGUMENT, () -> books.back(2, 1, 1));
        Check.dueThrow("back of 0, changed about", Check.ARGUMENT, () -> books.back(2, 1, 0));
    }

    /** "Of several exceptions the one named first is thrown" */
    private static void ofSeveralExceptionsTheFirst() {
        ClearingBooks full = Books.acquirersThenIssuers(7, 7);
        for (int rate : new int[] {-1, 1001, Integer.MIN_VALUE, Integer.MAX_VALUE}) {
            Check.dueThrow("acquirer(" + rate + ") when full", Check.ARGUMENT, () -> full.acquirer(rate));
            Check.dueThrow("issuer(" + rate + ") when full", Check.ARGUMENT, () -> full.issuer(rate));
        }
        for (int rate : new int[] {0, 1000}) {
            Check.dueThrow("acquirer(" + rate + ") when full", Check.STATE, () -> full.acquirer(rate));
            Check.dueThrow("issuer(" + rate + ") when full", Check.STATE, () -> full.issuer(rate));
        }
    }

    /** "a call that throws changes nothing" */
    private static void aRefusedCallChangesNothing() {
        ClearingBooks books = Books.pair(33, 77);
        books.clear(1, 2, 12345);
        books.settle();
        books.clear(1, 2, 54321);
        String before = Check.stateOf(books);
        refuse(() -> books.acquirer(-1), () -> books.acquirer(1001), () -> books.issuer(-1), () -> books.issuer(1001));
        refuse(() -> books.clear(0, 2, 5), () -> books.clear(1, 0, 5), () -> books.clear(1, 1, 5));
        refuse(() -> books.clear(2, 2, 5), () -> books.clear(1, 2, 0), () -> books.clear(1, 2, MOST + 1));
        refuse(() -> books.back(0, 2, 5), () -> books.back(1, 0, 5), () -> books.back(1, 1, 5));
        refuse(() -> books.back(2, 2, 5), () -> books.back(1, 2, MOST + 1), () -> books.back(1, 2, -MOST - 1));
        refuse(() -> books.reconcile(2, 2, 66666) ? 1 : 0, () -> books.reconcile(3, 0, 0) ? 1 : 0);
        refuse(() -> books.batch(1, 2), () -> books.batch(2, 0), () -> books.batch(3, 0));
        refuse(() -> books.transfer(2, 0), () -> books.transfer(-1, 0), () -> books.transfer(0, 3));
        refuse(() -> books.party(3, 0), () -> books.party(-1, 0), () -> books.party(0, 5));
        Check.due("after refused calls", before, Check.stateOf(books));
        Check.due("the next party", 3, books.issuer(0));
    }

    /** The same, of 15 parties. */
    private static void aRefusedCallChangesNothingInAFullObject() {
        ClearingBooks books = Books.acquirersThenIssuers(7, 7);
        books.clear(7, 14, 99);
        books.settle();
        books.back(7, 14, 5);
        String before = Check.stateOf(books);
        Check.dueThrow("acquirer", Check.STATE, () -> books.acquirer(9));
        Check.dueThrow("issuer", Check.STATE, () -> books.issuer(9));
        refuse(() -> books.acquirer(-9), () -> books.issuer(1009), () -> books.clear(7, 15, 5));
        Check.due("after refused calls", before, Check.stateOf(books));
    }

    /** "`NONE = -1`: There is none." - of nothing that has a number. */
    private static void noneIsMinusOne() {
        Check.due("NONE", -1, ClearingBooks.NONE);
        ClearingBooks books = Books.pair(0, 0);
        books.back(1, 2, 1);
        books.settle();
        Check.dueThrow("party NONE", Check.ARGUMENT, () -> books.party(ClearingBooks.NONE, 0));
        Check.dueThrow("transfer NONE", Check.ARGUMENT, () -> books.transfer(ClearingBooks.NONE, 0));
        Check.dueThrow("batch of NONE", Check.ARGUMENT, () -> books.batch(ClearingBooks.NONE, 0));
    }

    private static void refuse(Check.Call... calls) {
        for (int i = 0; i < calls.length; i++) {
            Check.dueThrow("refused call " + i, Check.ARGUMENT, calls[i]);
        }
    }
}
