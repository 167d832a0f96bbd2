/** Counts what is not as due; a test ends with end(). */
final class Check {
    interface Call {
        Object answer();
    }

    private static int asDue = 0;
    private static int wrong = 0;

    private Check() {
    }

    static void same(String what, Object got, Object due) {
        if (got.equals(due)) {
            asDue++;
        } else {
            wrong++;
            System.out.println(what + ": got " + got + ", due is " + due);
        }
    }

    /** The class must be this very one: the machine's own exceptions are classes below it. */
    static void refused(String what, Class<? extends RuntimeException> due, Call call) {
        same(what, outcome(call), due.getName());
    }

    /** The answer as a text, or the name of the exception's class. */
    static String outcome(Call call) {
        try {
            return String.valueOf(call.answer());
        } catch (RuntimeException e) {
            return e.getClass().getName();
        }
    }

    static void end(String test) {
        System.out.println(test + ": " + asDue + " checks as due, " + wrong + " not");
        if (wrong != 0 || asDue == 0) {
            System.exit(1);
        }
    }

    static LiarTents camp(int... kinds) {
        LiarTents camp = new LiarTents();
        for (int kind : kinds) {
            camp.setKind(camp.come(), kind);
        }
        return camp;
    }

    static long digestOf(long... numbers) {
        long d = 1429;
        for (long x : numbers) {
            d = d * 31 + x;
        }
        return d;
    }

    /** All that can be asked of a camp without changing it, as one text. */
    static String everything(LiarTents camp) {
        StringBuilder all = new StringBuilder();
        all.append(camp.digest()).append(' ').append(camp.mean()).append(' ').append(camp.needs());
        for (int a = -1; a <= 7; a++) {
            int first = a;
            all.append(' ').append(outcome(() -> camp.does(first)));
            for (int b = -1; b <= 7; b++) {
                int second = b;
                all.append(' ').append(outcome(() -> camp.took(first, second)));
            }
        }
        return all.toString();
    }
}
