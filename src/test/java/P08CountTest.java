/** Promise 8: count. */
public final class P08CountTest {
    public static void main(String[] args) {
        generals();
        rounds();
        liars();
        councilsInAll();
        messengersOfTheLatest();
        loyalOnesThatAttack();
        loyalOnesThatWait();
        theCommanderOfTheLatest();
        theOrderOfTheLatest();
        minusOneWithoutACouncil();
        loyalIsWhoIsSoNow();
        ofThoseThatWereThere();
        theCommanderToo();
        liarsAlone();
        noSuchWhat();
        Check.end("P08CountTest");
    }

    private static void generals() {
        LiarTents camp = new LiarTents();
        for (int number = 0; number <= 7; number++) {
            Check.same("generals", camp.count(0), number);
            if (number < 7) {
                camp.come();
            }
        }
    }

    private static void rounds() {
        LiarTents camp = new LiarTents();
        Check.same("rounds at first", camp.count(1), 1);
        for (int rounds = 0; rounds <= 3; rounds++) {
            camp.setRounds(rounds);
            Check.same("rounds", camp.count(1), rounds);
        }
    }

    private static void liars() {
        LiarTents camp = Check.loyal(7);
        Check.same("none", camp.count(2), 0);
        for (int general = 0; general < 7; general++) {
            camp.setKind(general, 1 + general % 4);
            Check.same("liars", camp.count(2), general + 1);
        }
        camp.setKind(3, 0);
        Check.same("one less", camp.count(2), 6);
    }

    private static void councilsInAll() {
        LiarTents camp = Check.loyal(2);
        for (int councils = 0; councils < 5; councils++) {
            Check.same("councils", camp.count(3), councils);
            camp.hold(councils % 2, 0);
        }
        Check.refused("a refused one", Check.ARGUMENT, () -> camp.hold(0, 2));
        camp.would(0, 1, 1);
        camp.needs();
        Check.same("no refused one, none that would be", camp.count(3), 5);
    }

    private static void messengersOfTheLatest() {
        LiarTents camp = Check.loyal(4);
        int[] due = {3, 9, 15, 15};
        for (int rounds = 0; rounds <= 3; rounds++) {
            camp.setRounds(rounds);
            camp.hold(0, 1);
            Check.same("messengers", camp.count(4), due[rounds]);
        }
        camp.setRounds(0);
        camp.come();
        camp.messengers(0);
        Check.same("those of the latest stay", camp.count(4), 15);
        Check.same("one alone tells nobody", afterHold(0).count(4), 0);
    }

    /** A camp by 0 rounds behind a council that general 0 commanded to attack. */
    private static LiarTents afterHold(int... kinds) {
        LiarTents camp = Check.campBy(0, kinds);
        camp.hold(0, 1);
        return camp;
    }

    private static void loyalOnesThatAttack() {
        Check.same("all of them", afterHold(0, 0, 0).count(5), 3);
        Check.same("liars that attack are not counted", afterHold(0, 4, 3, 0).count(5), 2);
        Check.same("the liar alone attacks", afterHold(4, 0, 0).count(5), 0);
        Check.same("some", afterHold(1, 0, 0, 0, 0).count(5), 2);
        Check.same("seven", afterHold(0, 0, 0, 0, 0, 0, 0).count(5), 7);
    }

    private static void loyalOnesThatWait() {
        Check.same("none", afterHold(0, 0, 0).count(6), 0);
        Check.same("behind a liar", afterHold(4, 0, 0).count(6), 2);
        Check.same("liars that wait are not counted", afterHold(4, 1, 0).count(6), 1);
        LiarTents seven = Check.loyal(7);
        seven.hold(6, 0);
        Check.same("seven", seven.count(6), 7);
    }

    private static void theCommanderOfTheLatest() {
        LiarTents camp = Check.loyal(7);
        for (int commander : Check.numbers(0, 6, 3)) {
            camp.hold(commander, 1);
            Check.same("the commander", camp.count(7), commander);
        }
        Check.refused("a refused one", Check.BOUNDS, () -> camp.hold(7, 0));
        camp.would(2, 0, 1);
        Check.same("still it", camp.count(7), 3);
    }

    private static void theOrderOfTheLatest() {
        LiarTents camp = Check.camp(4, 0);
        camp.hold(0, 1);
        Check.same("attack", camp.count(8), 1);
        camp.hold(0, 0);
        Check.same("wait", camp.count(8), 0);
        camp.would(0, 1, 1);
        Check.same("still it", camp.count(8), 0);
    }

    private static void minusOneWithoutACouncil() {
        Check.counts("a new camp", new LiarTents(), 0, 0, 1, 0, 0, -1, -1, -1, -1, -1);
        Check.counts("with generals", Check.camp(0, 4, 0), 0, 3, 1, 1, 0, -1, -1, -1, -1, -1);
    }

    private static void loyalIsWhoIsSoNow() {
        LiarTents camp = afterHold(0, 4, 0, 0);
        Check.counts("as they were", camp, 5, 3, 0);
        camp.setKind(2, 1);
        Check.counts("one became a liar", camp, 5, 2, 0);
        camp.setKind(1, 0);
        Check.counts("a liar became loyal", camp, 5, 3, 0);
        LiarTents turned = afterHold(4, 0, 4);
        Check.counts("as they were, waiting", turned, 5, 0, 1);
        turned.setKind(2, 0);
        Check.counts("a liar that waits became loyal", turned, 5, 0, 2);
        turned.setKind(1, 3);
        Check.counts("one that waits became a liar", turned, 5, 0, 1);
    }

    private static void ofThoseThatWereThere() {
        LiarTents camp = afterHold(0, 0);
        camp.come();
        camp.come();
        Check.counts("newcomers are not counted", camp, 5, 2, 0);
        camp.hold(0, 0);
        Check.counts("by the next one they are", camp, 5, 0, 4);
    }

    private static void theCommanderToo() {
        Check.counts("a loyal commander, alone", afterHold(0), 5, 1, 0);
        LiarTents camp = afterHold(4, 0);
        Check.counts("a liar that commanded", camp, 5, 0, 1);
        camp.setKind(0, 0);
        Check.counts("loyal now", camp, 5, 1, 1);
        camp.hold(0, 0);
        camp.setKind(0, 3);
        Check.counts("a liar now", camp, 5, 0, 1);
    }

    private static void liarsAlone() {
        LiarTents camp = Check.campBy(3, 1, 2, 3, 4, 1, 2, 3);
        camp.hold(6, 1);
        Check.counts("seven liars", camp, 0, 7, 3, 7, 1, 516, 0, 0, 6, 1);
    }

    private static void noSuchWhat() {
        LiarTents camp = afterHold(0, 4);
        Check.refusesEach("what", camp, Check.BOUNDS, Check.beyond(0, 8), what -> camp.count(what));
        LiarTents empty = new LiarTents();
        Check.refusesEach("what of a new camp", empty, Check.BOUNDS, Check.beyond(0, 8), what -> empty.count(what));
    }
}
