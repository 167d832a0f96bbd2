/** Counts what is not as due; a test ends with end(). */
final class Check {
    interface Call {
        Object answer();
    }

    interface CallWith {
        Object answer(int number);
    }

    static final Class<IndexOutOfBoundsException> BOUNDS = IndexOutOfBoundsException.class;
    static final Class<IllegalArgumentException> ARGUMENT = IllegalArgumentException.class;
    static final Class<IllegalStateException> STATE = IllegalStateException.class;

    static final int LEAST = Integer.MIN_VALUE;
    static final int MOST = Integer.MAX_VALUE;

    private static int asDue = 0;
    private static int wrong = 0;

    private Check() {
    }

    static void same(String what, Object got, Object due) {
        if (got.equals(due)) {
            asDue++;
        } else {
            wrong++;
            System.out.println(what + ": got " + got + ", due is " + due);
        }
    }

    /** The class must be this very one: the machine's own exceptions are classes below it. */
    static void refused(String what, Class<? extends RuntimeException> due, Call call) {
        same(what, outcome(call), due.getName());
    }

    /** Each of the calls is refused, and none of them changes anything of the camp. */
    static void refusedUnchanged(
            String what, LiarTents camp, Class<? extends RuntimeException> due, Call... calls) {
        String before = everything(camp);
        for (int at = 0; at < calls.length; at++) {
            refused(what + ", call " + (at + 1), due, calls[at]);
        }
        same(what + ", nothing is changed", everything(camp), before);
    }

    /** As refusedUnchanged, of one call with each of these numbers. */
    static void refusesEach(
            String what, LiarTents camp, Class<? extends RuntimeException> due, int[] wrongOnes, CallWith call) {
        String before = everything(camp);
        for (int number : wrongOnes) {
            refused(what + " " + number, due, () -> call.answer(number));
        }
        same(what + ", nothing is changed", everything(camp), before);
    }

    /** Numbers just outside these bounds, and the farthest. */
    static int[] beyond(int least, int most) {
        return numbers(least - 1, most + 1, LEAST, MOST);
    }

    /** Numbers that are no general's in a camp of so many; 7 is nobody's in any. */
    static int[] notThere(int generals) {
        return numbers(-1, generals, 7, LEAST, MOST);
    }

    /** The answer as a text, or the name of the exception's class. */
    static String outcome(Call call) {
        try {
            return String.valueOf(call.answer());
        } catch (RuntimeException e) {
            return e.getClass().getName();
        }
    }

    static void end(String test) {
        System.out.println(test + ": " + asDue + " checks as due, " + wrong + " not");
        if (wrong != 0 || asDue == 0) {
            System.exit(1);
        }
    }

    static LiarTents camp(int... kinds) {
        LiarTents camp = new LiarTents();
        for (int kind : kinds) {
            camp.setKind(camp.come(), kind);
        }
        return camp;
    }

    static LiarTents campBy(int rounds, int... kinds) {
        LiarTents camp = camp(kinds);
        camp.setRounds(rounds);
        return camp;
    }

    /** So many generals, all loyal. */
    static LiarTents loyal(int generals) {
        return camp(new int[generals]);
    }

    static int[] numbers(int... numbers) {
        return numbers;
    }

    /** What the generals do by the latest council, a digit each. */
    static String done(LiarTents camp) {
        StringBuilder orders = new StringBuilder();
        for (int general = 0; general < camp.count(0); general++) {
            int asked = general;
            String order = outcome(() -> camp.does(asked));
            orders.append(order.equals(BOUNDS.getName()) ? "." : order);
        }
        return orders.toString();
    }

    /** What a general took of each one, from 0 on, by the latest council. */
    static String took(LiarTents camp, int general) {
        StringBuilder all = new StringBuilder();
        for (int other = 0; other < camp.count(0); other++) {
            int asked = other;
            all.append(other == 0 ? "" : " ").append(outcome(() -> camp.took(general, asked)));
        }
        return all.toString();
    }

    /** Holds a council and looks at what each one does by it, and at how many attack. */
    static void held(String what, LiarTents camp, int commander, int order, String due) {
        int attacks = camp.hold(commander, order);
        same(what, done(camp), due);
        same(what + ", attacks", attacks, due.replace("0", "").length());
    }

    /** What count() tells from what on. */
    static void counts(String what, LiarTents camp, int from, int... due) {
        for (int at = 0; at < due.length; at++) {
            same(what + ", count(" + (from + at) + ")", camp.count(from + at), due[at]);
        }
    }

    /** What told() tells of a general, all four. */
    static void tells(String what, LiarTents camp, int general, int... due) {
        for (int at = 0; at < due.length; at++) {
            same(what + ", told(" + general + ", " + at + ")", camp.told(general, at), due[at]);
        }
    }

    static long digestOf(long... numbers) {
        long d = 1429;
        for (long x : numbers) {
            d = d * 31 + x;
        }
        return d;
    }

    /** What the latest council told, of so many generals, as one text; loyalty now is not in it. */
    static String latest(LiarTents camp, int generals) {
        StringBuilder told = new StringBuilder();
        told.append(camp.count(4)).append(' ').append(camp.count(7)).append(' ').append(camp.count(8));
        for (int a = 0; a < generals; a++) {
            int first = a;
            told.append(" | ").append(outcome(() -> camp.does(first)));
            for (int b = 0; b < generals; b++) {
                int second = b;
                told.append(' ').append(outcome(() -> camp.took(first, second)));
            }
        }
        return told.toString();
    }

    /**
     * What can be asked of a camp without changing it, as one text; two of them leave most of the
     * 512 calls that an object is promised for.
     */
    static String everything(LiarTents camp) {
        int generals = camp.count(0);
        StringBuilder all = new StringBuilder();
        all.append(camp.digest()).append(' ').append(camp.mean()).append(' ').append(camp.needs());
        for (int what = 0; what <= 8; what++) {
            all.append(' ').append(camp.count(what));
        }
        for (int general = 0; general < generals; general++) {
            for (int what = 0; what <= 3; what++) {
                all.append(' ').append(camp.told(general, what));
            }
        }
        return all.append(" | ").append(latest(camp, generals)).toString();
    }
}
