/** Promise 14: needs. */
public final class P14NeedsTest {
    private static final int CAMPS_OF_SEVEN = 78125;

    public static void main(String[] args) {
        withoutGenerals();
        none();
        one();
        two();
        byNone();
        withEachGeneralAsTheCommander();
        withEachOrder();
        theLeast();
        asAgreesHolds();
        noMoreThanLiars();
        whateverTheRoundsAre();
        nothingIsChanged();
        Check.end("P14NeedsTest");
    }

    private static void withoutGenerals() {
        Check.same("without generals", new LiarTents().needs(), 0);
        LiarTents camp = new LiarTents();
        camp.setRounds(3);
        Check.same("without generals, by 3 rounds", camp.needs(), 0);
    }

    private static void none() {
        Check.same("alone", Check.camp(4).needs(), 0);
        Check.same("all loyal", Check.loyal(7).needs(), 0);
        Check.same("liars alone", Check.camp(1, 2, 3, 4, 1, 2, 3).needs(), 0);
        Check.same("a liar that tells all the same", Check.camp(0, 4, 0, 0).needs(), 0);
    }

    private static void one() {
        Check.same("a liar that splits four", Check.camp(1, 0, 0, 0).needs(), 1);
        Check.same("a liar that splits five", Check.camp(0, 2, 0, 0, 0).needs(), 1);
    }

    private static void two() {
        Check.same("two liars that split five", Check.camp(0, 2, 1, 1, 0).needs(), 2);
        Check.same("two liars that split seven", Check.camp(1, 1, 0, 0, 0, 0, 0).needs(), 2);
    }

    private static void byNone() {
        Check.same("a liar that splits three", Check.camp(1, 0, 0).needs(), -1);
        Check.same("three liars that split seven", Check.camp(1, 1, 1, 0, 0, 0, 0).needs(), -1);
    }

    private static void withEachGeneralAsTheCommander() {
        // Only the last general splits the others, by 0 rounds.
        LiarTents camp = Check.campBy(0, 0, 0, 0, 1);
        for (int general = 0; general < 3; general++) {
            Check.same("a loyal one", camp.agrees(general, 1), true);
        }
        Check.same("the last one", camp.agrees(3, 1), false);
        Check.same("so 0 rounds are too few", camp.needs(), 1);
    }

    private static void withEachOrder() {
        // By 1 round with each one that commands to attack, but not with each that says wait.
        LiarTents camp = Check.campBy(1, 2, 1, 0, 0);
        boolean attacks = true;
        boolean waits = true;
        for (int general = 0; general < 4; general++) {
            attacks = attacks && camp.agrees(general, 1);
            waits = waits && camp.agrees(general, 0);
        }
        Check.same("to attack", attacks, true);
        Check.same("to wait", waits, false);
        Check.same("so by none", camp.needs(), -1);
    }

    private static void theLeast() {
        LiarTents camp = Check.loyal(4);
        Check.same("by 0 of 0 to 3", camp.needs(), 0);
        camp.setKind(1, 1);
        Check.same("by 1 of 1 to 3", camp.needs(), 1);
    }

    /** The least rounds by what agrees() says of each general and order. */
    private static int leastRounds(int... kinds) {
        for (int rounds = 0; rounds <= 3; rounds++) {
            LiarTents camp = Check.campBy(rounds, kinds);
            boolean always = true;
            for (int plan = 0; plan < 2 * kinds.length; plan++) {
                always = always && camp.agrees(plan / 2, plan % 2);
            }
            if (always) {
                return rounds;
            }
        }
        return -1;
    }

    private static void asAgreesHolds() {
        for (int code = 0; code < 3125; code++) {
            int[] kinds = {code % 5, code / 5 % 5, code / 25 % 5, code / 125 % 5, code / 625};
            Check.same("camp " + code + " of five", Check.camp(kinds).needs(), leastRounds(kinds));
        }
    }

    /** More than three times as many generals as liars agree by as many rounds as liars. */
    private static void noMoreThanLiars() {
        for (int code = 0; code < CAMPS_OF_SEVEN; code++) {
            LiarTents camp = new LiarTents();
            int rest = code;
            for (int general = 0; general < 7; general++) {
                camp.setKind(camp.come(), rest % 5);
                rest /= 5;
            }
            int liars = camp.count(2);
            if (liars <= 2) {
                int needed = camp.needs();
                Check.same("camp " + code + " of seven", needed >= 0 && needed <= liars, true);
            }
        }
    }

    private static void whateverTheRoundsAre() {
        for (int rounds = 0; rounds <= 3; rounds++) {
            LiarTents camp = Check.campBy(rounds, 1, 0, 0, 0);
            Check.same("rounds " + rounds, camp.needs(), 1);
            Check.same("the rounds stay", camp.count(1), rounds);
        }
    }

    private static void nothingIsChanged() {
        LiarTents camp = Check.campBy(2, 0, 4, 1, 0);
        camp.hold(0, 1);
        String before = Check.everything(camp);
        camp.needs();
        Check.same("nothing is changed", Check.everything(camp), before);
    }
}
