/** Promise 4: setRounds. */
public final class P04SetRoundsTest {
    public static void main(String[] args) {
        theRoundsBefore();
        theLeastAndTheMost();
        withoutGenerals();
        fromNowOn();
        theLatestCouncilStays();
        tooFewRounds();
        tooManyRounds();
        Check.end("P04SetRoundsTest");
    }

    private static void theRoundsBefore() {
        LiarTents camp = Check.loyal(2);
        int before = 1;
        for (int rounds : Check.numbers(0, 3, 2, 1, 1, 3, 0, 0)) {
            Check.same("the rounds before " + rounds, camp.setRounds(rounds), before);
            before = rounds;
        }
    }

    private static void theLeastAndTheMost() {
        LiarTents camp = Check.loyal(2);
        camp.setRounds(0);
        Check.same("0 rounds", camp.count(1), 0);
        camp.setRounds(3);
        Check.same("3 rounds", camp.count(1), 3);
    }

    private static void withoutGenerals() {
        LiarTents camp = new LiarTents();
        Check.same("the rounds before", camp.setRounds(2), 1);
        Check.same("the rounds", camp.count(1), 2);
    }

    private static void fromNowOn() {
        LiarTents camp = Check.camp(0, 0, 4);
        Check.held("by 1 round", camp, 0, 1, "101");
        camp.setRounds(0);
        Check.same("by a council now", camp.would(0, 1, 1), 1);
        Check.same("they agree now", camp.agrees(0, 1), true);
        Check.held("by the next council", camp, 0, 1, "111");
        Check.same("its messengers", camp.count(4), 2);
    }

    private static void theLatestCouncilStays() {
        LiarTents camp = Check.campBy(1, 0, 0, 4, 0);
        camp.hold(0, 1);
        String before = Check.latest(camp, 4);
        for (int rounds : Check.numbers(0, 2, 3)) {
            camp.setRounds(rounds);
            Check.same("the latest council stays", Check.latest(camp, 4), before);
        }
    }

    private static void tooFewRounds() {
        LiarTents camp = Check.campBy(2, 0, 4);
        Check.refusesEach("too few", camp, Check.ARGUMENT, Check.numbers(-1, Check.LEAST), camp::setRounds);
        Check.same("the rounds", camp.count(1), 2);
    }

    private static void tooManyRounds() {
        LiarTents camp = Check.campBy(2, 0, 4);
        Check.refusesEach("too many", camp, Check.ARGUMENT, Check.numbers(4, Check.MOST), camp::setRounds);
        Check.same("the rounds", camp.count(1), 2);
        Check.refused("too many for a new camp", Check.ARGUMENT, () -> new LiarTents().setRounds(4));
    }
}
