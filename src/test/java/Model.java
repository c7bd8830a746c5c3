import java.math.BigInteger;
import java.util.ArrayList;
import java.util.Comparator;
import java.util.List;

/** The document written down a second time, in other means (BigInteger, sorting), to compare long runs with. */
final class Model {
    private static final BigInteger WHOLE = BigInteger.valueOf(10000);
    private static final long MOST = 1000000000000L;

    private static final class Member {
        final int number;
        final int kind;
        final int rate;
        BigInteger position = BigInteger.ZERO;
        BigInteger settled = BigInteger.ZERO;
        final List<Long> batch = new ArrayList<>();

        Member(int number, int kind, int rate) {
            this.number = number;
            this.kind = kind;
            this.rate = rate;
        }

        void move(BigInteger by) {
            position = position.add(by);
        }
    }

    private final List<Member> members = new ArrayList<>();
    private List<long[]> transfers = new ArrayList<>();

    Model() {
        members.add(new Member(0, 0, 0));
    }

    long enter(int kind, int rate) {
        legal(rate >= 0 && rate <= 1000);
        if (members.size() == 15) {
            throw new IllegalStateException();
        }
        members.add(new Member(members.size(), kind, rate));
        return members.size() - 1;
    }

    long clear(int acquirer, int issuer, long x) {
        Member a = member(acquirer, 1);
        Member i = member(issuer, 2);
        legal(x >= 1 && x <= MOST);
        BigInteger amount = BigInteger.valueOf(x);
        BigInteger[] charged = amount.multiply(BigInteger.valueOf(i.rate + a.rate)).divideAndRemainder(WHOLE);
        BigInteger c = charged[1].signum() == 0 ? charged[0] : charged[0].add(BigInteger.ONE);
        BigInteger s = amount.multiply(BigInteger.valueOf(i.rate)).divide(WHOLE);
        a.move(amount.subtract(c));
        i.move(s.subtract(amount));
        members.get(0).move(c.subtract(s));
        a.batch.add(x);
        return c.longValueExact();
    }

    long back(int acquirer, int issuer, long x) {
        Member a = member(acquirer, 1);
        Member i = member(issuer, 2);
        legal(x >= -MOST && x <= MOST);
        a.move(BigInteger.valueOf(-x));
        i.move(BigInteger.valueOf(x));
        return a.position.longValueExact();
    }

    long reconcile(int acquirer, int count, long sum) {
        Member a = member(acquirer, 1);
        if (a.batch.size() != count || sumOf(a.batch) != sum) {
            return 0;
        }
        a.batch.clear();
        return 1;
    }

    long batch(int acquirer, int what) {
        Member a = member(acquirer, 1);
        legal(what == 0 || what == 1);
        return what == 0 ? a.batch.size() : sumOf(a.batch);
    }

    long settle() {
        long[] off = new long[members.size()];
        for (Member m : members) {
            off[m.number] = m.position.longValueExact();
            m.settled = m.settled.add(m.position);
            m.position = BigInteger.ZERO;
        }
        transfers = new ArrayList<>();
        for (List<Integer> order = ranked(off); off[order.get(0)] < 0; order = ranked(off)) {
            int payer = order.get(0);
            long greatest = off[order.get(order.size() - 1)];
            int payee = 0;
            while (off[payee] != greatest) {
                payee++;
            }
            long payment = Math.min(Math.abs(off[payer]), Math.abs(greatest));
            off[payer] += payment;
            off[payee] -= payment;
            transfers.add(new long[] {payer, payee, payment});
        }
        return transfers.size();
    }

    long transfer(int k, int what) {
        legal(k >= 0 && k < transfers.size() && what >= 0 && what <= 2);
        return transfers.get(k)[what];
    }

    long party(int party, int what) {
        legal(party >= 0 && party < members.size() && what >= 0 && what <= 4);
        Member m = members.get(party);
        long[] told = {m.position.longValueExact(), m.settled.longValueExact(), m.kind, m.rate, placeOf(m)};
        return told[what];
    }

    long parties() {
        return members.size();
    }

    long batchSize(int party) {
        return party >= 0 && party < members.size() ? members.get(party).batch.size() : 0;
    }

    long batchSum(int party) {
        return party >= 0 && party < members.size() ? sumOf(members.get(party).batch) : 0;
    }

    private long placeOf(Member m) {
        List<Member> order = new ArrayList<>(members);
        order.sort(Comparator.comparing((Member other) -> other.position.negate()));
        return order.indexOf(m);
    }

    private static List<Integer> ranked(long[] off) {
        List<Integer> order = new ArrayList<>();
        for (int p = 0; p < off.length; p++) {
            order.add(p);
        }
        order.sort(Comparator.comparingLong(p -> off[p]));
        return order;
    }

    private static long sumOf(List<Long> amounts) {
        return amounts.stream().mapToLong(Long::longValue).sum();
    }

    private Member member(int party, int kind) {
        legal(party >= 0 && party < members.size() && members.get(party).kind == kind);
        return members.get(party);
    }

    private static void legal(boolean holds) {
        if (!holds) {
            throw new IllegalArgumentException();
        }
    }
}
