/** Who owes what to whom: cleared amounts, batches, settlings, and who pays whom so that all is even. */
public final class ClearingBooks {
    public static final int NONE = -1;

    private static final int MAX_PARTIES = 15;
    // Each transfer brings at least one party to 0, and the last one brings two.
    private static final int MAX_TRANSFERS = MAX_PARTIES - 1;
    private static final int MAX_RATE = 1000;
    private static final long WHOLE = 10000L;
    private static final long MAX_AMOUNT = 1000000000000L;

    private static final int HOUSE = 0;

    private static final int KIND_HOUSE = 0;
    private static final int KIND_ACQUIRER = 1;
    private static final int KIND_ISSUER = 2;

    private int partyCount;
    private final int[] kinds;
    private final int[] rates;
    private final long[] positions;
    private final long[] settled;
    private final int[] batchCounts;
    private final long[] batchSums;

    // What each party is still off 0 while transfers are made: kept, so that settling makes no new row.
    private final long[] open;
    private int transferCount;
    private final int[] payers;
    private final int[] payees;
    private final long[] payments;

    public ClearingBooks() {
        kinds = new int[MAX_PARTIES];
        rates = new int[MAX_PARTIES];
        positions = new long[MAX_PARTIES];
        settled = new long[MAX_PARTIES];
        batchCounts = new int[MAX_PARTIES];
        batchSums = new long[MAX_PARTIES];
        open = new long[MAX_PARTIES];
        payers = new int[MAX_TRANSFERS];
        payees = new int[MAX_TRANSFERS];
        payments = new long[MAX_TRANSFERS];
        kinds[HOUSE] = KIND_HOUSE;
        partyCount = 1;
        transferCount = 0;
    }

    public int acquirer(int fee) throws IllegalArgumentException, IllegalStateException {
        return enter(KIND_ACQUIRER, fee);
    }

    public int issuer(int share) throws IllegalArgumentException, IllegalStateException {
        return enter(KIND_ISSUER, share);
    }

    public long clear(int acquirer, int issuer, long x) throws IllegalArgumentException {
        requireKind(acquirer, KIND_ACQUIRER);
        requireKind(issuer, KIND_ISSUER);
        requireAmount(x, 1L);
        long charge = partRoundedUp(x, rates[issuer] + rates[acquirer]);
        long share = partRoundedDown(x, rates[issuer]);
        positions[acquirer] += x - charge;
        positions[issuer] += share - x;
        positions[HOUSE] += charge - share;
        batchCounts[acquirer]++;
        batchSums[acquirer] += x;
        return charge;
    }

    public long back(int acquirer, int issuer, long x) throws IllegalArgumentException {
        requireKind(acquirer, KIND_ACQUIRER);
        requireKind(issuer, KIND_ISSUER);
        requireAmount(x, -MAX_AMOUNT);
        positions[acquirer] -= x;
        positions[issuer] += x;
        return positions[acquirer];
    }

    public boolean reconcile(int acquirer, int count, long sum) throws IllegalArgumentException {
        requireKind(acquirer, KIND_ACQUIRER);
        if (batchCounts[acquirer] != count || batchSums[acquirer] != sum) {
            return false;
        }
        batchCounts[acquirer] = 0;
        batchSums[acquirer] = 0L;
        return true;
    }

    public long batch(int acquirer, int what) throws IllegalArgumentException {
        requireKind(acquirer, KIND_ACQUIRER);
        switch (what) {
            case 0:
                return batchCounts[acquirer];
            case 1:
                return batchSums[acquirer];
            default:
                throw new IllegalArgumentException("what is not 0 or 1");
        }
    }

    public int settle() {
        for (int p = 0; p < partyCount; p++) {
            open[p] = positions[p];
            settled[p] += positions[p];
            positions[p] = 0L;
        }
        makeTransfers();
        return transferCount;
    }

    public long transfer(int k, int what) throws IllegalArgumentException {
        if (k < 0 || k >= transferCount) {
            throw new IllegalArgumentException("no such transfer");
        }
        switch (what) {
            case 0:
                return payers[k];
            case 1:
                return payees[k];
            case 2:
                return payments[k];
            default:
                throw new IllegalArgumentException("what is not 0 to 2");
        }
    }

    public long party(int party, int what) throws IllegalArgumentException {
        if (!isParty(party)) {
            throw new IllegalArgumentException("no such party");
        }
        switch (what) {
            case 0:
                return positions[party];
            case 1:
                return settled[party];
            case 2:
                return kinds[party];
            case 3:
                return rates[party];
            case 4:
                return placeOf(party);
            default:
                throw new IllegalArgumentException("what is not 0 to 4");
        }
    }

    public int parties() {
        return partyCount;
    }

    public int audit() {
        int positionsOff = sumOf(positions) != 0L ? 2 : 0;
        int settledOff = sumOf(settled) != 0L ? 1 : 0;
        return positionsOff + settledOff;
    }

    private int enter(int kind, int rate) {
        if (rate < 0 || rate > MAX_RATE) {
            throw new IllegalArgumentException("a fee or share is not 0 to 1000");
        }
        if (partyCount >= MAX_PARTIES) {
            throw new IllegalStateException("there are 15 parties");
        }
        int entered = partyCount;
        kinds[entered] = kind;
        rates[entered] = rate;
        partyCount++;
        return entered;
    }

    private boolean isParty(int party) {
        return party >= 0 && party < partyCount;
    }

    private void requireKind(int party, int kind) {
        if (!isParty(party) || kinds[party] != kind) {
            throw new IllegalArgumentException("no such party of this kind");
        }
    }

    private static void requireAmount(long x, long least) {
        if (x < least || x > MAX_AMOUNT) {
            throw new IllegalArgumentException("an amount is out of its bounds");
        }
    }

    private static long partRoundedDown(long x, int rate) {
        return x * rate / WHOLE;
    }

    private static long partRoundedUp(long x, int rate) {
        return (x * rate + WHOLE - 1L) / WHOLE;
    }

    private void makeTransfers() {
        transferCount = 0;
        for (int k = 0; k < MAX_TRANSFERS; k++) {
            int payer = leastOpen();
            if (open[payer] >= 0L) {
                return;
            }
            makeTransfer(k, payer, greatestOpen());
            transferCount = k + 1;
        }
    }

    private void makeTransfer(int k, int payer, int payee) {
        long payment = Math.min(-open[payer], open[payee]);
        open[payer] += payment;
        open[payee] -= payment;
        payers[k] = payer;
        payees[k] = payee;
        payments[k] = payment;
    }

    private int leastOpen() {
        int least = 0;
        for (int p = 1; p < partyCount; p++) {
            if (open[p] < open[least]) {
                least = p;
            }
        }
        return least;
    }

    private int greatestOpen() {
        int greatest = 0;
        for (int p = 1; p < partyCount; p++) {
            if (open[p] > open[greatest]) {
                greatest = p;
            }
        }
        return greatest;
    }

    private int placeOf(int party) {
        int place = 0;
        for (int p = 0; p < partyCount; p++) {
            boolean alikeAndFirst = positions[p] == positions[party] && p < party;
            if (positions[p] > positions[party] || alikeAndFirst) {
                place++;
            }
        }
        return place;
    }

    private long sumOf(long[] amounts) {
        long sum = 0L;
        for (int p = 0; p < partyCount; p++) {
            sum += amounts[p];
        }
        return sum;
    }
}
