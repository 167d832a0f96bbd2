/** Promise 7: took. */
public final class P07TookTest {
    public static void main(String[] args) {
        ofTheCommanderWhatItHeard();
        ofTheCommanderByEachRounds();
        ofItselfNobody();
        ofOthersByTheirAgreement();
        ofOthersByMoreRounds();
        ofOthersBehindALiarThatCommands();
        ofOthersByNoRounds();
        ofOthersByNoRoundsBehindMore();
        roundsAreThoseOfTheCouncil();
        theFirstAndTheLast();
        noSuchFirstGeneral();
        noSuchSecondGeneral();
        theFirstCameBehind();
        theSecondCameBehind();
        cameBehindAnEarlierOne();
        noCouncil();
        theFirstCommanded();
        boundsAheadOfState();
        Check.end("P07TookTest");
    }

    private static void ofTheCommanderWhatItHeard() {
        LiarTents camp = Check.camp(0, 1, 0, 4);
        camp.hold(0, 1);
        Check.same("of a loyal one", camp.took(2, 0), 1);
        camp.hold(1, 1);
        Check.same("of a liar, even", camp.took(2, 1), 1);
        Check.same("of a liar, odd", camp.took(3, 1), 0);
    }

    private static void ofTheCommanderByEachRounds() {
        for (int rounds = 0; rounds <= 3; rounds++) {
            LiarTents camp = Check.campBy(rounds, 2, 4, 0, 0);
            camp.hold(1, 1);
            Check.same("rounds " + rounds + ", wait for attack", camp.took(0, 1), 0);
            camp.hold(1, 0);
            Check.same("rounds " + rounds + ", attack for wait", camp.took(3, 1), 1);
        }
    }

    private static void ofItselfNobody() {
        for (int rounds = 0; rounds <= 3; rounds++) {
            LiarTents camp = Check.campBy(rounds, 0, 0, 4, 0);
            camp.hold(0, 1);
            for (int general = 1; general < 4; general++) {
                Check.same("rounds " + rounds + ", of itself", camp.took(general, general), -1);
            }
        }
    }

    private static void ofOthersByTheirAgreement() {
        LiarTents camp = Check.camp(0, 0, 4, 0);
        camp.hold(0, 1);
        Check.same("of a liar", camp.took(1, 2), 0);
        Check.same("of a loyal one", camp.took(1, 3), 1);
        Check.same("a liar of a loyal one", camp.took(2, 1), 1);
        Check.same("all that one took", Check.took(camp, 3), "1 1 0 -1");
    }

    private static void ofOthersByMoreRounds() {
        // By 2 rounds general 1 takes of 3 by the agreement of 1 to 4 that 3 commands: it hears
        // attack of 3, but wait of 2, which turned it, and of 4, which said nothing.
        LiarTents camp = Check.campBy(2, 0, 0, 4, 0, 3);
        camp.hold(0, 1);
        Check.same("of the liar that turns", camp.took(1, 2), 0);
        Check.same("of a loyal one", camp.took(1, 3), 0);
        Check.same("of the silent one", camp.took(1, 4), 0);
        LiarTents seven = Check.campBy(3, 0, 0, 0, 0, 0, 0, 3);
        seven.hold(0, 1);
        Check.same("by 3 rounds, of the silent one", seven.took(1, 6), 0);
        Check.same("by 3 rounds, of loyal ones", seven.took(1, 5), 1);
    }

    private static void ofOthersBehindALiarThatCommands() {
        LiarTents camp = Check.camp(0, 0, 4, 0);
        camp.hold(2, 1);
        Check.same("what was turned is retold", Check.took(camp, 0), "-1 0 0 0");
        camp.hold(2, 0);
        Check.same("what was turned is retold, of wait", Check.took(camp, 0), "-1 1 1 1");
    }

    private static void ofOthersByNoRounds() {
        LiarTents camp = Check.campBy(0, 0, 0, 4, 0);
        camp.hold(0, 1);
        Check.same("by 0 rounds", Check.took(camp, 3), "1 -1 -1 -1");
        Check.same("by 0 rounds, a liar", Check.took(camp, 2), "1 -1 -1 -1");
    }

    private static void ofOthersByNoRoundsBehindMore() {
        LiarTents camp = Check.campBy(2, 0, 0, 4, 0);
        camp.hold(0, 1);
        camp.setRounds(0);
        camp.hold(3, 0);
        Check.same("0 rounds behind more", Check.took(camp, 0), "-1 -1 -1 0");
        Check.same("0 rounds behind more, another", Check.took(camp, 1), "-1 -1 -1 0");
    }

    private static void roundsAreThoseOfTheCouncil() {
        LiarTents camp = Check.campBy(0, 0, 0, 0);
        camp.hold(0, 1);
        camp.setRounds(2);
        camp.agrees(0, 1);
        Check.same("there were 0 rounds", camp.took(1, 2), -1);
        camp.hold(0, 1);
        camp.setRounds(0);
        camp.agrees(0, 1);
        Check.same("there were 2 rounds", camp.took(1, 2), 1);
    }

    private static void theFirstAndTheLast() {
        LiarTents camp = Check.camp(0, 0, 0, 3, 0, 0, 4);
        camp.hold(3, 1);
        Check.same("the first of the last", camp.took(0, 6), 1);
        Check.same("the last of the first", camp.took(6, 0), 0);
        camp.hold(6, 1);
        Check.same("of the last, that commanded", camp.took(0, 6), 0);
        camp.hold(0, 1);
        Check.same("of the first, that commanded", camp.took(6, 0), 1);
    }

    private static void noSuchFirstGeneral() {
        LiarTents camp = Check.loyal(3);
        camp.hold(0, 1);
        Check.refusesEach("first", camp, Check.BOUNDS, Check.notThere(3), general -> camp.took(general, 1));
    }

    private static void noSuchSecondGeneral() {
        LiarTents camp = Check.loyal(3);
        camp.hold(0, 1);
        Check.refusesEach("second", camp, Check.BOUNDS, Check.notThere(3), general -> camp.took(1, general));
    }

    private static void theFirstCameBehind() {
        LiarTents camp = Check.loyal(2);
        camp.hold(0, 1);
        camp.come();
        Check.refusedUnchanged("the first", camp, Check.BOUNDS,
            () -> camp.took(2, 0), () -> camp.took(2, 1), () -> camp.took(2, 2));
    }

    private static void theSecondCameBehind() {
        LiarTents camp = Check.loyal(2);
        camp.hold(0, 1);
        camp.come();
        Check.refusedUnchanged("the second", camp, Check.BOUNDS, () -> camp.took(1, 2));
        Check.same("those that were there", camp.took(1, 0), 1);
    }

    private static void cameBehindAnEarlierOne() {
        LiarTents camp = Check.loyal(2);
        camp.hold(0, 1);
        camp.come();
        camp.hold(0, 1);
        Check.same("there by now", Check.took(camp, 2), "1 1 -1");
        Check.same("of one there by now", camp.took(1, 2), 1);
    }

    private static void noCouncil() {
        LiarTents camp = Check.loyal(3);
        Check.refusedUnchanged("no council", camp, Check.STATE,
            () -> camp.took(0, 1), () -> camp.took(1, 0), () -> camp.took(1, 1), () -> camp.took(0, 0));
        camp.agrees(0, 1);
        Check.refused("none by questions", Check.STATE, () -> camp.took(1, 0));
    }

    private static void theFirstCommanded() {
        LiarTents camp = Check.loyal(3);
        camp.hold(1, 1);
        Check.refusedUnchanged("the first commanded", camp, Check.STATE,
            () -> camp.took(1, 0), () -> camp.took(1, 1), () -> camp.took(1, 2));
        camp.hold(0, 1);
        Check.same("an earlier commander", camp.took(1, 2), 1);
        Check.refused("the later commander", Check.STATE, () -> camp.took(0, 1));
        LiarTents alone = Check.loyal(1);
        alone.hold(0, 1);
        Check.refusedUnchanged("alone", alone, Check.STATE, () -> alone.took(0, 0));
    }

    private static void boundsAheadOfState() {
        LiarTents camp = Check.loyal(2);
        Check.refusedUnchanged("without a council", camp, Check.BOUNDS,
            () -> camp.took(2, 0), () -> camp.took(0, 2), () -> camp.took(-1, 0), () -> camp.took(0, -1));
        camp.hold(0, 1);
        camp.come();
        Check.refusedUnchanged("the first commanded", camp, Check.BOUNDS,
            () -> camp.took(0, 2), () -> camp.took(0, 3), () -> camp.took(0, -1));
    }
}
