/** Promises 1, 2, 3, 10 and 11: a new object, acquirer, issuer, party, parties. */
public final class PartiesTest {
    public static void main(String[] args) {
        aNewObjectHasTheHouseAlone();
        partiesAreNumberedAsTheyCome();
        ratesHaveBounds();
        fifteenPartiesAtMost();
        partyRefusesWrongNumbers();
        placesGoFromTheGreatestToTheLeast();
        objectsAreApart();
        Check.end();
    }

    private static void aNewObjectHasTheHouseAlone() {
        ClearingBooks books = new ClearingBooks();
        Check.due("new parties", 1, books.parties());
        for (int what = 0; what <= 4; what++) {
            Check.due("new party(0, " + what + ")", 0, books.party(0, what));
        }
        Check.due("new audit", 0, books.audit());
        Check.dueThrow("new party(1, 0)", Check.ARGUMENT, () -> books.party(1, 0));
        Check.dueThrow("new transfer(0, 0)", Check.ARGUMENT, () -> books.transfer(0, 0));
        Check.dueThrow("new batch(0, 0)", Check.ARGUMENT, () -> books.batch(0, 0));
        Check.due("NONE", -1, ClearingBooks.NONE);
    }

    private static void partiesAreNumberedAsTheyCome() {
        ClearingBooks books = new ClearingBooks();
        Check.due("first acquirer", 1, books.acquirer(70));
        Check.due("then issuer", 2, books.issuer(90));
        Check.due("then issuer again", 3, books.issuer(90));
        Check.due("parties", 4, books.parties());
        Check.due("kind of acquirer", 1, books.party(1, 2));
        Check.due("kind of issuer", 2, books.party(2, 2));
        Check.due("kind of house", 0, books.party(0, 2));
        Check.due("fee", 70, books.party(1, 3));
        Check.due("share", 90, books.party(2, 3));
        Check.due("rate of house", 0, books.party(0, 3));
        for (int p = 1; p < 4; p++) {
            Check.due("position at first", 0, books.party(p, 0));
            Check.due("settled at first", 0, books.party(p, 1));
        }
        Check.due("batch at first", 0, books.batch(1, 0));
        Check.due("batch sum at first", 0, books.batch(1, 1));
    }

    private static void ratesHaveBounds() {
        ClearingBooks books = new ClearingBooks();
        Check.due("fee 0", 1, books.acquirer(0));
        Check.due("fee 1000", 2, books.acquirer(1000));
        Check.due("share 0", 3, books.issuer(0));
        Check.due("share 1000", 4, books.issuer(1000));
        String before = Check.stateOf(books);
        for (int rate : new int[] {-1, 1001, Integer.MIN_VALUE, Integer.MAX_VALUE}) {
            Check.dueThrow("acquirer(" + rate + ")", Check.ARGUMENT, () -> books.acquirer(rate));
            Check.dueThrow("issuer(" + rate + ")", Check.ARGUMENT, () -> books.issuer(rate));
        }
        Check.due("after wrong rates", before, Check.stateOf(books));
    }

    private static void fifteenPartiesAtMost() {
        ClearingBooks books = new ClearingBooks();
        for (int p = 1; p <= 14; p++) {
            Check.due("party " + p, p, p % 3 == 0 ? books.issuer(p) : books.acquirer(p));
        }
        String before = Check.stateOf(books);
        Check.dueThrow("acquirer of 15", Check.STATE, () -> books.acquirer(5));
        Check.dueThrow("issuer of 15", Check.STATE, () -> books.issuer(5));
        Check.dueThrow("acquirer of 15, wrong fee", Check.ARGUMENT, () -> books.acquirer(1001));
        Check.dueThrow("issuer of 15, wrong share", Check.ARGUMENT, () -> books.issuer(-1));
        Check.due("parties", 15, books.parties());
        Check.due("after a full house", before, Check.stateOf(books));
    }

    private static void partyRefusesWrongNumbers() {
        ClearingBooks books = new ClearingBooks();
        books.acquirer(1);
        for (int party : new int[] {-1, 2, 15, Integer.MIN_VALUE, Integer.MAX_VALUE}) {
            Check.dueThrow("party(" + party + ", 0)", Check.ARGUMENT, () -> books.party(party, 0));
        }
        for (int what : new int[] {-1, 5, Integer.MIN_VALUE, Integer.MAX_VALUE}) {
            Check.dueThrow("party(1, " + what + ")", Check.ARGUMENT, () -> books.party(1, what));
        }
    }

    private static void placesGoFromTheGreatestToTheLeast() {
        ClearingBooks books = new ClearingBooks();
        books.issuer(0);
        books.acquirer(0);
        books.issuer(0);
        books.acquirer(0);
        Books.duePlaces("at first", books, 0, 1, 2, 3, 4);
        books.back(2, 3, -5);
        books.back(4, 1, -5);
        Books.duePlaces("two ahead", books, 2, 3, 0, 4, 1);
        books.back(4, 1, -1);
        Books.duePlaces("a third one", books, 2, 4, 1, 3, 0);
        books.settle();
        Books.duePlaces("settled", books, 0, 1, 2, 3, 4);
    }

    private static void objectsAreApart() {
        ClearingBooks one = new ClearingBooks();
        ClearingBooks other = new ClearingBooks();
        one.acquirer(1);
        one.issuer(1);
        one.clear(1, 2, 100);
        one.settle();
        Check.due("the other object", Check.stateOf(new ClearingBooks()), Check.stateOf(other));
    }
}
