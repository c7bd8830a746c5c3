/** What the tests share: compares answers, and ends the test with exit code 1 if one was not as due. */
final class Check {
    /** A call that may throw. */
    interface Call {
        long answer();
    }

    static final Class<?> ARGUMENT = IllegalArgumentException.class;
    static final Class<?> STATE = IllegalStateException.class;

    private static int wrong = 0;

    private Check() {
    }

    static void due(String what, long want, long got) {
        if (got != want) {
            report(what + " answered " + got + ", due is " + want);
        }
    }

    static void due(String what, String want, String got) {
        if (!want.equals(got)) {
            report(what + " answered " + got + ", due is " + want);
        }
    }

    static void dueThrow(String what, Class<?> want, Call call) {
        due(what, "throws." + want.getSimpleName(), outcome(call));
    }

    /** A throw must be of the very class: a machine's exception may stand below IllegalArgumentException. */
    static String outcome(Call call) {
        try {
            return Long.toString(call.answer());
        } catch (RuntimeException e) {
            return "throws." + e.getClass().getSimpleName();
        }
    }

    /** All that an object tells of itself, to see that a call changed nothing else. */
    static String stateOf(ClearingBooks books) {
        StringBuilder text = new StringBuilder();
        text.append(books.parties()).append(" audit ").append(books.audit());
        for (int p = 0; p < books.parties(); p++) {
            text.append("\n party ").append(p);
            for (int what = 0; what <= 4; what++) {
                text.append(' ').append(books.party(p, what));
            }
            if (books.party(p, 2) == 1) {
                text.append(" batch ").append(books.batch(p, 0)).append(' ').append(books.batch(p, 1));
            }
        }
        for (int k = 0; k < 20; k++) {
            text.append("\n transfer");
            for (int what = 0; what <= 2; what++) {
                final int transfer = k;
                final int part = what;
                text.append(' ').append(outcome(() -> books.transfer(transfer, part)));
            }
        }
        return text.toString();
    }

    static void end() {
        if (wrong != 0) {
            System.out.println(wrong + " answers are not as due");
            System.exit(1);
        }
    }

    private static void report(String line) {
        wrong++;
        System.out.println(line);
    }
}
