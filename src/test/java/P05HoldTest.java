/** Promise 5: hold. */
public final class P05HoldTest {
    public static void main(String[] args) {
        howManyAttack();
        nobodyAttacks();
        allSevenAttack();
        liarsThatAttackCount();
        alone();
        two();
        aCommanderOfEachKind();
        theFirstAndTheLastCommand();
        retellers();
        itIsTheLatestThen();
        theSameCouncilAgain();
        itStaysBehindANewcomer();
        itStaysBehindOtherKinds();
        itStaysBehindOtherRounds();
        itStaysBehindQuestions();
        itStaysBehindARefusedOne();
        noSuchGeneral();
        noSuchOrder();
        bothWrong();
        Check.end("P05HoldTest");
    }

    private static void howManyAttack() {
        LiarTents camp = Check.campBy(0, 1, 0, 0, 0);
        Check.same("1 of 4 turned, 3 of 4 turned", camp.hold(0, 1), 2);
        Check.same("the liar's order to wait", camp.hold(0, 0), 2);
        Check.same("a loyal one's order", camp.hold(1, 1), 4);
    }

    private static void nobodyAttacks() {
        Check.same("all wait", Check.loyal(7).hold(3, 0), 0);
        Check.same("all wait by a liar that says nothing", Check.camp(3, 0, 0).hold(0, 0), 0);
        Check.same("only the commander attacks", Check.camp(3, 0, 0).hold(0, 1), 1);
    }

    private static void allSevenAttack() {
        for (int rounds = 0; rounds <= 3; rounds++) {
            Check.same("all attack", Check.campBy(rounds, 0, 0, 0, 0, 0, 0, 0).hold(3, 1), 7);
        }
    }

    private static void liarsThatAttackCount() {
        Check.same("liars alone", Check.campBy(0, 1, 2, 3, 4).hold(1, 1), 3);
        Check.same("a loyal one and liars", Check.campBy(0, 0, 3, 4).hold(0, 1), 3);
    }

    private static void alone() {
        for (int kind = 0; kind <= 4; kind++) {
            for (int rounds = 0; rounds <= 3; rounds++) {
                LiarTents camp = Check.campBy(rounds, kind);
                Check.held("alone, wait", camp, 0, 0, "0");
                Check.held("alone, attack", camp, 0, 1, "1");
            }
        }
    }

    private static void two() {
        for (int rounds = 0; rounds <= 3; rounds++) {
            Check.held("two loyal", Check.campBy(rounds, 0, 0), 0, 1, "11");
            Check.held("two loyal, the other one", Check.campBy(rounds, 0, 0), 1, 0, "00");
            Check.held("a liar commands", Check.campBy(rounds, 4, 0), 0, 1, "10");
            Check.held("a liar commands to wait", Check.campBy(rounds, 4, 0), 0, 0, "01");
            Check.held("a liar hears", Check.campBy(rounds, 0, 4), 0, 1, "11");
        }
    }

    private static void aCommanderOfEachKind() {
        Check.held("loyal", Check.campBy(0, 0, 0, 0, 0), 1, 1, "1111");
        Check.held("loyal, wait", Check.campBy(0, 0, 0, 0, 0), 1, 0, "0000");
        Check.held("kind 1 turns for odd", Check.campBy(0, 0, 1, 0, 0), 1, 1, "1110");
        Check.held("kind 1 turns for odd, wait", Check.campBy(0, 0, 1, 0, 0), 1, 0, "0001");
        Check.held("kind 2 by number", Check.campBy(0, 0, 2, 0, 0), 1, 1, "0111");
        Check.held("kind 2 by number, wait", Check.campBy(0, 0, 2, 0, 0), 1, 0, "0011");
        Check.held("kind 3 says nothing", Check.campBy(0, 0, 3, 0, 0), 1, 1, "0100");
        Check.held("kind 3 says nothing, wait", Check.campBy(0, 0, 3, 0, 0), 1, 0, "0000");
        Check.held("kind 4 turns all", Check.campBy(0, 0, 4, 0, 0), 1, 1, "0100");
        Check.held("kind 4 turns all, wait", Check.campBy(0, 0, 4, 0, 0), 1, 0, "1011");
    }

    private static void theFirstAndTheLastCommand() {
        Check.held("the first", Check.campBy(0, 2, 0, 0, 0, 0, 0, 0), 0, 0, "0111111");
        Check.held("the last", Check.campBy(0, 0, 0, 0, 0, 0, 0, 2), 6, 1, "0000001");
    }

    private static void retellers() {
        // General 3 turns round what it retells: 1 and 2 hold two of three against it.
        Check.held("one liar of four", Check.campBy(1, 0, 0, 0, 4), 0, 1, "1111");
        Check.held("two liars of four", Check.campBy(1, 0, 0, 4, 4), 0, 1, "1011");
        // Of each other one a general takes wait: a liar turned what 1 retold, so it ends in ties.
        Check.held("two liars of four, 2 rounds", Check.campBy(2, 0, 0, 4, 4), 0, 1, "1000");
        Check.held("two silent of seven", Check.campBy(2, 0, 3, 3, 0, 0, 0, 0), 0, 1, "1111111");
        Check.held("a silent commander", Check.campBy(2, 0, 3, 3, 0, 0, 0, 0), 1, 1, "0100000");
        Check.held("kind 2 retells", Check.campBy(1, 0, 0, 2), 0, 1, "101");
        Check.held("kind 2 retells wait", Check.campBy(1, 0, 2, 0), 0, 0, "000");
    }

    private static void itIsTheLatestThen() {
        LiarTents camp = Check.campBy(1, 0, 4, 0);
        camp.hold(0, 1);
        camp.setRounds(0);
        camp.hold(1, 0);
        Check.counts("the later one", camp, 3, 2, 2, 2, 0, 1, 0);
        Check.same("the later one, done", Check.done(camp), "101");
        Check.same("the later one, took", Check.took(camp, 0), "-1 1 -1");
    }

    private static void theSameCouncilAgain() {
        LiarTents camp = Check.campBy(2, 0, 1, 4, 0, 2);
        camp.hold(0, 1);
        String before = Check.latest(camp, 5);
        camp.hold(0, 1);
        Check.same("the same again", Check.latest(camp, 5), before);
        Check.same("two in all", camp.count(3), 2);
    }

    /** A council of five, two of them liars, by 2 rounds. */
    private static LiarTents heldCamp() {
        LiarTents camp = Check.campBy(2, 0, 1, 0, 4, 0);
        camp.hold(1, 1);
        return camp;
    }

    private static void itStaysBehindANewcomer() {
        LiarTents camp = heldCamp();
        String before = Check.latest(camp, 5);
        camp.come();
        Check.same("behind a newcomer", Check.latest(camp, 5), before);
        camp.hold(5, 0);
        Check.same("the next one has the newcomer", camp.does(5), 0);
    }

    private static void itStaysBehindOtherKinds() {
        LiarTents camp = heldCamp();
        String before = Check.latest(camp, 5);
        camp.setKind(1, 0);
        camp.setKind(3, 2);
        camp.setKind(0, 3);
        Check.same("behind other kinds", Check.latest(camp, 5), before);
    }

    private static void itStaysBehindOtherRounds() {
        LiarTents camp = heldCamp();
        String before = Check.latest(camp, 5);
        camp.setRounds(0);
        Check.same("behind 0 rounds", Check.latest(camp, 5), before);
        camp.setRounds(3);
        Check.same("behind 3 rounds", Check.latest(camp, 5), before);
    }

    private static void itStaysBehindQuestions() {
        LiarTents camp = heldCamp();
        String before = Check.latest(camp, 5);
        camp.would(2, 0, 3);
        camp.agrees(0, 1);
        camp.messengers(3);
        camp.needs();
        camp.found(3);
        camp.hears(3, 1, 0);
        camp.mean();
        camp.digest();
        Check.same("behind questions", Check.latest(camp, 5), before);
    }

    private static void itStaysBehindARefusedOne() {
        LiarTents camp = heldCamp();
        String before = Check.latest(camp, 5);
        Check.refused("no such order", Check.ARGUMENT, () -> camp.hold(2, 2));
        Check.refused("no such general", Check.BOUNDS, () -> camp.hold(5, 0));
        Check.same("behind a refused one", Check.latest(camp, 5), before);
        Check.same("councils", camp.count(3), 1);
    }

    private static void noSuchGeneral() {
        LiarTents camp = Check.camp(0, 1, 0);
        camp.hold(1, 1);
        Check.refusesEach("commander", camp, Check.BOUNDS, Check.notThere(3),
            general -> camp.hold(general, 0));
        Check.refused("without generals", Check.BOUNDS, () -> new LiarTents().hold(0, 0));
    }

    private static void noSuchOrder() {
        LiarTents camp = Check.camp(0, 1, 0);
        Check.refusesEach("order", camp, Check.ARGUMENT, Check.beyond(0, 1), order -> camp.hold(0, order));
        Check.same("no council", camp.count(3), 0);
    }

    private static void bothWrong() {
        LiarTents camp = Check.loyal(3);
        Check.refusedUnchanged("both: the general first", camp, Check.BOUNDS,
            () -> camp.hold(3, 2), () -> camp.hold(-1, -1));
    }
}
