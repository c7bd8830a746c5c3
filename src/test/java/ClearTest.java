/** Promises 4 and 5: clear and back. */
public final class ClearTest {
    private static final long MOST = 1000000000000L;

    public static void main(String[] args) {
        clearingRoundsForTheHouse();
        clearingGrowsTheBatch();
        clearingAtTheEdges();
        goingBackAndForth();
        wrongNumbersChangeNothing();
        Check.end();
    }

    /** Acquirer 1 with fee 50, issuer 2 with share 100. */
    private static ClearingBooks pair() {
        return Books.pair(50, 100);
    }

    private static void clearingRoundsForTheHouse() {
        ClearingBooks even = pair();
        Check.due("clear 10000", 150, even.clear(1, 2, 10000));
        Books.duePositions("10000", even, 50, 9850, -9900);
        ClearingBooks odd = pair();
        Check.due("clear 10001", 151, odd.clear(1, 2, 10001));
        Books.duePositions("10001", odd, 51, 9850, -9901);
        ClearingBooks under = pair();
        Check.due("clear 9999", 150, under.clear(1, 2, 9999));
        Books.duePositions("9999", under, 51, 9849, -9900);
        ClearingBooks one = pair();
        Check.due("clear 1", 1, one.clear(1, 2, 1));
        Books.duePositions("1", one, 1, 0, -1);
    }

    private static void clearingGrowsTheBatch() {
        ClearingBooks books = pair();
        books.clear(1, 2, 7);
        books.clear(1, 2, 8);
        Check.due("amounts", 2, books.batch(1, 0));
        Check.due("sum", 15, books.batch(1, 1));
    }

    private static void clearingAtTheEdges() {
        ClearingBooks free = new ClearingBooks();
        free.acquirer(0);
        free.issuer(0);
        Check.due("clear for nothing", 0, free.clear(1, 2, MOST));
        Books.duePositions("for nothing", free, 0, MOST, -MOST);
        ClearingBooks dear = new ClearingBooks();
        dear.acquirer(1000);
        dear.issuer(1000);
        Check.due("clear the most", MOST / 5, dear.clear(1, 2, MOST));
        Books.duePositions("the most", dear, MOST / 10, MOST / 5 * 4, -MOST / 10 * 9);
        Check.due("clear one less", MOST / 5, dear.clear(1, 2, MOST - 1));
        Books.duePositions("one less", dear, MOST / 5 + 1, MOST / 5 * 8 - 1, -MOST / 5 * 9);
    }

    private static void goingBackAndForth() {
        ClearingBooks books = pair();
        Check.due("back 30", -30, books.back(1, 2, 30));
        Books.duePositions("back", books, 0, -30, 30);
        Check.due("forth 100", 70, books.back(1, 2, -100));
        Books.duePositions("forth", books, 0, 70, -70);
        Check.due("back 0", 70, books.back(1, 2, 0));
        Check.due("back the most", 70 - MOST, books.back(1, 2, MOST));
        Check.due("forth the most", 70, books.back(1, 2, -MOST));
        Books.duePositions("both", books, 0, 70, -70);
        Check.due("batch is left alone", 0, books.batch(1, 0));
        Check.due("batch sum is left alone", 0, books.batch(1, 1));
    }

    private static void wrongNumbersChangeNothing() {
        ClearingBooks books = pair();
        books.clear(1, 2, 12345);
        books.settle();
        books.clear(1, 2, 54321);
        String before = Check.stateOf(books);
        for (long x : new long[] {0, -1, MOST + 1, -MOST, Long.MIN_VALUE, Long.MAX_VALUE}) {
            Check.dueThrow("clear " + x, Check.ARGUMENT, () -> books.clear(1, 2, x));
        }
        for (long x : new long[] {MOST + 1, -MOST - 1, Long.MIN_VALUE, Long.MAX_VALUE}) {
            Check.dueThrow("back " + x, Check.ARGUMENT, () -> books.back(1, 2, x));
        }
        for (int p : new int[] {-1, 0, 2, 3, 15, Integer.MIN_VALUE, Integer.MAX_VALUE}) {
            Check.dueThrow("clear by acquirer " + p, Check.ARGUMENT, () -> books.clear(p, 2, 5));
            Check.dueThrow("back by acquirer " + p, Check.ARGUMENT, () -> books.back(p, 2, 5));
        }
        for (int p : new int[] {-1, 0, 1, 3, 15, Integer.MIN_VALUE, Integer.MAX_VALUE}) {
            Check.dueThrow("clear by issuer " + p, Check.ARGUMENT, () -> books.clear(1, p, 5));
            Check.dueThrow("back by issuer " + p, Check.ARGUMENT, () -> books.back(1, p, 5));
        }
        Check.due("after wrong numbers", before, Check.stateOf(books));
    }
}
