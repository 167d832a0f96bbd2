/** What the head 'Terms' says ahead of the promises, and how long an object is used. */
public final class TermsTest {
    public static void main(String[] args) {
        anOrderIsWaitOrAttack();
        generalsAreAtMostSeven();
        generalsAreNumberedFromZero();
        generalsAreLoyalAtFirst();
        kindOneTurnsForOddNumbers();
        kindOneGoesByTheHearersNumber();
        kindTwoSaysWaitToSmallerNumbers();
        kindTwoOfTheFirstNumber();
        kindTwoOfTheLastNumber();
        kindThreeSaysNothing();
        kindFourTurnsAll();
        roundsAreOneAtFirst();
        roundsAreZeroToThree();
        roundsMoreOftenThanThereAreGenerals();
        aLoyalOneSaysTheOrder();
        liarsHearAsOthers();
        liarsTakeAsOthers();
        liarsDoAsOthers();
        liarsTellOnOfWhatTheyHeard();
        byNoRoundsWhatWasHeardIsTaken();
        byOneRoundOthersCommandByNone();
        byTwoRoundsMajoritiesAreTaken();
        byThreeRoundsTwoAreLeft();
        moreAttackThanWaitIsAttack();
        asManyOfBothIsWait();
        moreWaitThanAttackIsWait();
        anAgreementOfOneIsEmpty();
        theCouncilIsOfAllGenerals();
        theCouncilGoesByTheRoundsThereAre();
        theCommanderDoesTheOrder();
        messengersRunForEachTelling();
        messengersRunForSilentLiars();
        aMethodThatThrowsChangesNothing();
        theExceptionNamedFirstIsThrown();
        fiveHundredAndTwelveCalls();
        aCouncilByEachCall();
        Check.end("TermsTest");
    }

    private static void anOrderIsWaitOrAttack() {
        LiarTents camp = Check.loyal(2);
        Check.held("0 is wait", camp, 0, 0, "00");
        Check.held("1 is attack", camp, 0, 1, "11");
        int[] noOrders = Check.beyond(0, 1);
        Check.refusesEach("held order", camp, Check.ARGUMENT, noOrders, order -> camp.hold(0, order));
        Check.refusesEach("heard order", camp, Check.ARGUMENT, noOrders, order -> camp.hears(0, 1, order));
        Check.refusesEach("order that would be", camp, Check.ARGUMENT, noOrders, order -> camp.would(0, order, 1));
        Check.refusesEach("agreed order", camp, Check.ARGUMENT, noOrders, order -> camp.agrees(0, order));
    }

    private static void generalsAreAtMostSeven() {
        LiarTents camp = Check.loyal(6);
        Check.same("a seventh comes", camp.come(), 6);
        Check.refusedUnchanged("no eighth comes", camp, Check.STATE, camp::come);
        Check.same("seven are there", camp.count(0), 7);
    }

    private static void generalsAreNumberedFromZero() {
        LiarTents camp = new LiarTents();
        for (int number = 0; number < 7; number++) {
            Check.same("the number", camp.come(), number);
        }
    }

    private static void generalsAreLoyalAtFirst() {
        LiarTents camp = Check.camp(4, 4);
        int newcomer = camp.come();
        Check.same("its kind", camp.told(newcomer, 0), 0);
        Check.same("it tells wait", camp.hears(newcomer, 1, 0), 0);
        Check.same("it tells attack", camp.hears(newcomer, 1, 1), 1);
    }

    /** What all others hear of a general of this kind in a camp of seven, by their numbers. */
    private static String heardOf(int general, int kind, int order) {
        LiarTents camp = Check.loyal(7);
        camp.setKind(general, kind);
        StringBuilder heard = new StringBuilder();
        for (int to = 0; to < 7; to++) {
            heard.append(to == general ? "-" : camp.hears(general, to, order));
        }
        return heard.toString();
    }

    private static void kindOneTurnsForOddNumbers() {
        Check.same("kind 1, wait", heardOf(2, 1, 0), "01-1010");
        Check.same("kind 1, attack", heardOf(2, 1, 1), "10-0101");
    }

    private static void kindOneGoesByTheHearersNumber() {
        Check.same("kind 1, an odd liar, wait", heardOf(3, 1, 0), "010-010");
        Check.same("kind 1, an odd liar, attack", heardOf(3, 1, 1), "101-101");
        Check.same("kind 1, the first one", heardOf(0, 1, 1), "-010101");
        Check.same("kind 1, the last one", heardOf(6, 1, 1), "101010-");
    }

    private static void kindTwoSaysWaitToSmallerNumbers() {
        Check.same("kind 2, wait", heardOf(3, 2, 0), "000-111");
        Check.same("kind 2, attack", heardOf(3, 2, 1), "000-111");
    }

    private static void kindTwoOfTheFirstNumber() {
        Check.same("kind 2, the first one, wait", heardOf(0, 2, 0), "-111111");
        Check.same("kind 2, the first one, attack", heardOf(0, 2, 1), "-111111");
    }

    private static void kindTwoOfTheLastNumber() {
        Check.same("kind 2, the last one, wait", heardOf(6, 2, 0), "000000-");
        Check.same("kind 2, the last one, attack", heardOf(6, 2, 1), "000000-");
    }

    private static void kindThreeSaysNothing() {
        Check.same("kind 3, wait", heardOf(3, 3, 0), "000-000");
        Check.same("kind 3, attack", heardOf(3, 3, 1), "000-000");
    }

    private static void kindFourTurnsAll() {
        Check.same("kind 4, wait", heardOf(3, 4, 0), "111-111");
        Check.same("kind 4, attack", heardOf(3, 4, 1), "000-000");
    }

    private static void roundsAreOneAtFirst() {
        LiarTents camp = Check.camp(0, 0, 4);
        Check.same("rounds at first", camp.count(1), 1);
        // By one round general 1 hears wait of the liar; by none it would attack.
        Check.held("one round at first", camp, 0, 1, "101");
    }

    private static void roundsAreZeroToThree() {
        LiarTents camp = Check.loyal(3);
        for (int rounds = 0; rounds <= 3; rounds++) {
            camp.setRounds(rounds);
            Check.same("rounds", camp.count(1), rounds);
        }
        Check.refusesEach("rounds", camp, Check.ARGUMENT, Check.beyond(0, 3), camp::setRounds);
        Check.refusesEach("messengers' rounds", camp, Check.ARGUMENT, Check.beyond(0, 3), camp::messengers);
    }

    private static void roundsMoreOftenThanThereAreGenerals() {
        for (int rounds = 0; rounds <= 3; rounds++) {
            LiarTents one = Check.campBy(rounds, 4);
            Check.held("one general, rounds " + rounds, one, 0, 1, "1");
            Check.same("one general, messengers", one.count(4), 0);
            LiarTents two = Check.campBy(rounds, 4, 0);
            Check.held("two generals, rounds " + rounds, two, 0, 1, "10");
            Check.same("two generals, messengers", two.count(4), 1);
        }
        for (int rounds = 1; rounds <= 3; rounds++) {
            LiarTents three = Check.campBy(rounds, 0, 0, 4);
            Check.held("three generals, rounds " + rounds, three, 0, 1, "101");
            Check.same("three generals, took", Check.took(three, 1), "1 -1 0");
            Check.same("three generals, messengers", three.count(4), 4);
        }
        for (int rounds = 2; rounds <= 3; rounds++) {
            LiarTents four = Check.campBy(rounds, 0, 0, 4, 4);
            Check.held("four generals, rounds " + rounds, four, 0, 1, "1000");
            Check.same("four generals, took", Check.took(four, 1), "1 -1 0 0");
            Check.same("four generals, messengers", four.count(4), 15);
        }
    }

    private static void aLoyalOneSaysTheOrder() {
        Check.same("loyal, wait", heardOf(3, 0, 0), "000-000");
        Check.same("loyal, attack", heardOf(3, 0, 1), "111-111");
    }

    private static void liarsHearAsOthers() {
        for (int kind = 1; kind <= 4; kind++) {
            Check.held("kind " + kind + " hears attack", Check.campBy(0, 0, kind), 0, 1, "11");
            Check.held("kind " + kind + " hears wait", Check.campBy(0, 0, kind), 0, 0, "00");
        }
    }

    private static void liarsTakeAsOthers() {
        for (int kind = 1; kind <= 4; kind++) {
            LiarTents camp = Check.camp(0, 0, 4, kind);
            camp.hold(0, 1);
            Check.same("kind " + kind + " takes attack, and wait of a liar", Check.took(camp, 3), "1 1 0 -1");
        }
    }

    private static void liarsDoAsOthers() {
        for (int kind = 1; kind <= 4; kind++) {
            LiarTents camp = Check.camp(0, 0, 4, kind);
            camp.hold(0, 1);
            Check.same("kind " + kind + " does attack by 2 of 3", camp.does(3), 1);
            camp.setKind(1, 4);
            camp.hold(0, 1);
            Check.same("kind " + kind + " does wait by 2 of 3", camp.does(3), 0);
        }
    }

    private static void liarsTellOnOfWhatTheyHeard() {
        // The liar that commands turned the order; the liar that retells turns it back.
        LiarTents turned = Check.camp(4, 4, 0);
        turned.hold(0, 1);
        Check.same("what was turned is turned back", Check.took(turned, 2), "0 1 -1");
        // Who should hear of a silent one, hears wait; a liar that turns makes attack of it.
        LiarTents silent = Check.camp(3, 4, 0);
        silent.hold(0, 1);
        Check.same("the wait of a silent one is turned", Check.took(silent, 2), "0 1 -1");
        // What each kind makes of attack, and of wait, for an odd number below, an even one above.
        String[] ofAttack = {"1 1", "0 1", "0 1", "0 0", "0 0"};
        String[] ofWait = {"0 0", "1 0", "0 1", "0 0", "1 1"};
        for (int kind = 0; kind <= 4; kind++) {
            LiarTents camp = Check.camp(0, 0, 0, kind, 0);
            camp.hold(0, 1);
            Check.same("kind " + kind + " of attack", camp.took(1, 3) + " " + camp.took(4, 3), ofAttack[kind]);
            camp.hold(0, 0);
            Check.same("kind " + kind + " of wait", camp.took(1, 3) + " " + camp.took(4, 3), ofWait[kind]);
        }
    }

    private static void byNoRoundsWhatWasHeardIsTaken() {
        Check.held("each takes what it heard", Check.campBy(0, 1, 4, 4, 0, 0), 0, 1, "10101");
        Check.held("each takes what it heard, of wait", Check.campBy(0, 1, 4, 4, 0, 0), 0, 0, "01010");
    }

    private static void byOneRoundOthersCommandByNone() {
        // The liar says attack to 2 and 4, wait to 1 and 3: each takes two of both, a tie.
        LiarTents camp = Check.campBy(1, 1, 0, 0, 0, 0);
        Check.held("a split retold", camp, 0, 1, "10000");
        Check.same("what it heard, and of each what that heard", Check.took(camp, 2), "1 0 -1 0 1");
    }

    private static void byTwoRoundsMajoritiesAreTaken() {
        // By the agreement of 1 to 4 that 3 commands, 1 hears attack of 3, but wait of 2, which
        // turned it, and of 4, which said nothing: by 2 rounds it takes wait of 3, by 1 attack.
        LiarTents camp = Check.campBy(2, 0, 0, 4, 0, 3);
        camp.hold(0, 1);
        Check.same("by 2 rounds", Check.took(camp, 1), "1 -1 0 0 0");
        Check.same("by 2 rounds, done", camp.does(1), 0);
        camp.setRounds(1);
        camp.hold(0, 1);
        Check.same("by 1 round", Check.took(camp, 1), "1 -1 0 1 0");
    }

    private static void byThreeRoundsTwoAreLeft() {
        // General 0 says nothing. What 2 takes of 3 is worked out by 0, 2, 3, 4: there it takes of
        // 4 by 0, 2, 4, where it hears attack of 4, and 0 says nothing: a tie, so wait. So it has
        // attack of 3, but wait of 4 and of 0: wait of 3, and of 4 likewise. General 0 itself
        // hears loyal ones alone.
        LiarTents camp = Check.campBy(3, 3, 0, 0, 0, 0);
        Check.held("by 3 rounds", camp, 1, 1, "11000");
        Check.same("by 3 rounds, took", Check.took(camp, 2), "0 1 -1 0 0");
        camp.setRounds(2);
        Check.held("by 2 rounds", camp, 1, 1, "11111");
        Check.same("by 2 rounds, took", Check.took(camp, 2), "0 1 -1 1 1");
    }

    /** What general 1 does of attack, where so many of so many generals say nothing. */
    private static int doneAmongSilent(int generals, int silent) {
        LiarTents camp = Check.loyal(generals);
        for (int liar = 2; liar < 2 + silent; liar++) {
            camp.setKind(liar, 3);
        }
        camp.hold(0, 1);
        return camp.does(1);
    }

    private static void moreAttackThanWaitIsAttack() {
        Check.same("1 against 0", doneAmongSilent(2, 0), 1);
        Check.same("2 against 0", doneAmongSilent(3, 0), 1);
        Check.same("2 against 1", doneAmongSilent(4, 1), 1);
        Check.same("3 against 1", doneAmongSilent(5, 1), 1);
        Check.same("3 against 2", doneAmongSilent(6, 2), 1);
        Check.same("4 against 2", doneAmongSilent(7, 2), 1);
    }

    private static void asManyOfBothIsWait() {
        Check.same("1 against 1", doneAmongSilent(3, 1), 0);
        Check.same("2 against 2", doneAmongSilent(5, 2), 0);
        Check.same("3 against 3", doneAmongSilent(7, 3), 0);
        // Of an order to wait too, where a liar turned it.
        Check.held("1 against 1, of wait", Check.camp(0, 0, 4), 0, 0, "000");
    }

    private static void moreWaitThanAttackIsWait() {
        Check.same("1 against 2", doneAmongSilent(4, 2), 0);
        Check.same("1 against 3", doneAmongSilent(5, 3), 0);
        Check.same("2 against 3", doneAmongSilent(6, 3), 0);
        Check.same("2 against 4", doneAmongSilent(7, 4), 0);
        Check.same("1 against 5", doneAmongSilent(7, 5), 0);
    }

    private static void anAgreementOfOneIsEmpty() {
        for (int rounds = 0; rounds <= 3; rounds++) {
            LiarTents alone = Check.campBy(rounds, 0);
            Check.held("alone", alone, 0, 1, "1");
            Check.refused("alone, nobody takes anything", Check.STATE, () -> alone.took(0, 0));
            // The other of two commands an agreement of itself alone.
            LiarTents two = Check.campBy(rounds, 0, 3);
            Check.held("two", two, 0, 1, "11");
            Check.same("two, took", Check.took(two, 1), "1 -1");
        }
    }

    private static void theCouncilIsOfAllGenerals() {
        LiarTents camp = Check.camp(0);
        for (int generals = 2; generals <= 7; generals++) {
            camp.come();
            Check.same("all attack", camp.hold(generals - 1, 1), generals);
        }
    }

    private static void theCouncilGoesByTheRoundsThereAre() {
        LiarTents camp = Check.camp(0, 0, 4, 4);
        String[] due = {"1111", "1011", "1000", "1000"};
        for (int rounds = 0; rounds <= 3; rounds++) {
            camp.setRounds(rounds);
            Check.held("rounds " + rounds, camp, 0, 1, due[rounds]);
        }
    }

    private static void theCommanderDoesTheOrder() {
        for (int kind = 0; kind <= 4; kind++) {
            for (int order = 0; order <= 1; order++) {
                for (int rounds = 0; rounds <= 3; rounds++) {
                    LiarTents camp = Check.campBy(rounds, 4, 0, kind, 3);
                    camp.hold(2, order);
                    Check.same("a commander of kind " + kind, camp.does(2), order);
                }
            }
        }
    }

    private static int messengersOf(int rounds, int... kinds) {
        LiarTents camp = Check.campBy(rounds, kinds);
        camp.hold(0, 1);
        return camp.count(4);
    }

    private static void messengersRunForEachTelling() {
        int[] ofFour = {3, 3 + 3 * 2, 3 + 3 * (2 + 2), 15};
        int[] ofSeven = {6, 6 + 6 * 5, 6 + 6 * (5 + 5 * 4), 6 + 6 * (5 + 5 * (4 + 4 * 3))};
        for (int rounds = 0; rounds <= 3; rounds++) {
            Check.same("of one", messengersOf(rounds, 0), 0);
            Check.same("of two", messengersOf(rounds, 0, 0), 1);
            Check.same("of four", messengersOf(rounds, 0, 0, 0, 0), ofFour[rounds]);
            Check.same("of seven", messengersOf(rounds, 0, 0, 0, 0, 0, 0, 0), ofSeven[rounds]);
        }
    }

    private static void messengersRunForSilentLiars() {
        for (int kind = 0; kind <= 4; kind++) {
            Check.same("all of kind " + kind, messengersOf(3, kind, kind, kind, kind, kind), 64);
            Check.same("a commander of kind " + kind, messengersOf(0, kind, 0), 1);
        }
    }

    private static void aMethodThatThrowsChangesNothing() {
        LiarTents full = Check.campBy(2, 0, 1, 2, 3, 4, 0, 0);
        full.hold(1, 1);
        Check.refusedUnchanged("state", full, Check.STATE, full::come, () -> full.took(1, 0));
        Check.refusedUnchanged("argument", full, Check.ARGUMENT,
            () -> full.setRounds(4), () -> full.hold(0, 2), () -> full.hears(1, 1, 0),
            () -> full.would(2, 2, 3), () -> full.agrees(2, 2), () -> full.messengers(4));
        LiarTents camp = Check.campBy(2, 0, 1, 2, 3, 4);
        camp.hold(1, 1);
        Check.refusedUnchanged("bounds", camp, Check.BOUNDS,
            () -> camp.setKind(5, 1), () -> camp.setKind(0, 5), () -> camp.hold(5, 0),
            () -> camp.does(5), () -> camp.took(0, 5), () -> camp.count(9), () -> camp.told(5, 0),
            () -> camp.hears(0, 5, 0), () -> camp.would(0, 0, 5), () -> camp.agrees(5, 0),
            () -> camp.found(5));
    }

    private static void theExceptionNamedFirstIsThrown() {
        LiarTents camp = Check.loyal(2);
        Check.refusedUnchanged("no such general, and more, without a council", camp, Check.BOUNDS,
            () -> camp.does(2), () -> camp.took(2, 0), () -> camp.took(0, 2));
        camp.hold(0, 1);
        Check.refusedUnchanged("no such general, and more", camp, Check.BOUNDS,
            () -> camp.hold(2, 2), () -> camp.took(0, 2),
            () -> camp.hears(2, 2, 0), () -> camp.hears(2, 0, 2), () -> camp.hears(0, 2, 2),
            () -> camp.would(2, 2, 0), () -> camp.would(0, 2, 2), () -> camp.agrees(2, 2));
    }

    private static void fiveHundredAndTwelveCalls() {
        LiarTents camp = Check.loyal(1);
        for (int general = 1; general < 7; general++) {
            camp.come();
        }
        camp.setRounds(3);
        // Nine calls are behind it.
        for (int council = 0; council < 498; council++) {
            Check.same("a council of many", camp.hold(council % 7, 1), 7);
        }
        Check.same("call 508", camp.count(3), 498);
        Check.same("call 509", camp.told(6, 1), 498);
        Check.same("call 510", camp.told(0, 2), 72);
        Check.same("call 511", camp.mean(), 7.0);
        long due = Check.digestOf(
            7, 3, 0, 498, 516, 7, 0, 0, 1,
            0, 498, 72, 0, 0, 498, 71, 0, 0, 498, 71, 0, 0, 498, 71, 0, 0, 498, 71, 0, 0, 498, 71, 0,
            0, 498, 71, 0,
            1, 1, 1, 1, 1, 1, 1, 1, 1, 1, 1, 1, 1, 1, 1, 1, 1, 1, 1, 1, 1);
        Check.same("call 512", camp.digest(), due);
    }

    private static void aCouncilByEachCall() {
        LiarTents camp = new LiarTents();
        camp.come();
        for (int call = 2; call <= 511; call++) {
            Check.same("call " + call, camp.hold(0, call % 2), call % 2);
        }
        Check.same("call 512", camp.mean(), 0.5);
    }
}
