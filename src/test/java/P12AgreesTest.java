/** Promise 12: agrees. */
public final class P12AgreesTest {
    public static void main(String[] args) {
        allLoyal();
        alone();
        noLoyalOnes();
        oneLoyalOne();
        theOrderOfALoyalCommander();
        theOrderOfALiarBindsNobody();
        othersThanTheCommanderSplit();
        liarsMayDoOtherwise();
        bySuchACouncilNow();
        oneThatCameBehindTheLatest();
        nothingIsChanged();
        noSuchGeneral();
        noSuchOrder();
        boundsAheadOfArgument();
        Check.end("P12AgreesTest");
    }

    private static void allLoyal() {
        for (int rounds = 0; rounds <= 3; rounds++) {
            for (int general = 0; general < 7; general++) {
                LiarTents camp = Check.campBy(rounds, 0, 0, 0, 0, 0, 0, 0);
                Check.same("to wait", camp.agrees(general, 0), true);
                Check.same("to attack", camp.agrees(general, 1), true);
            }
        }
    }

    private static void alone() {
        for (int kind = 0; kind <= 4; kind++) {
            Check.same("to wait", Check.camp(kind).agrees(0, 0), true);
            Check.same("to attack", Check.camp(kind).agrees(0, 1), true);
        }
    }

    private static void noLoyalOnes() {
        LiarTents camp = Check.campBy(0, 1, 2, 3, 4);
        for (int plan = 0; plan < 8; plan++) {
            Check.same("nobody is loyal", camp.agrees(plan / 2, plan % 2), true);
        }
    }

    private static void oneLoyalOne() {
        LiarTents camp = Check.camp(4, 0, 4);
        Check.same("a liar commands", camp.agrees(0, 1), true);
        Check.same("a liar commands to wait", camp.agrees(0, 0), true);
        Check.same("it commands", camp.agrees(1, 1), true);
    }

    private static void theOrderOfALoyalCommander() {
        // The one other loyal one takes a tie, so waits.
        LiarTents camp = Check.camp(0, 0, 4);
        Check.same("to attack", camp.agrees(0, 1), false);
        Check.same("to wait", camp.agrees(0, 0), true);
        // Two liars turn the order to wait for general 1.
        LiarTents turned = Check.camp(0, 0, 4, 4);
        Check.same("to wait, and it attacks", turned.agrees(0, 0), false);
    }

    private static void theOrderOfALiarBindsNobody() {
        LiarTents camp = Check.camp(0, 0, 4);
        Check.same("both wait for attack", camp.agrees(2, 1), true);
        Check.same("both attack for wait", camp.agrees(2, 0), true);
    }

    private static void othersThanTheCommanderSplit() {
        LiarTents camp = Check.campBy(0, 1, 0, 0);
        Check.same("1 turned, 2 not", camp.agrees(0, 1), false);
        Check.same("1 turned, 2 not, of wait", camp.agrees(0, 0), false);
        camp.setRounds(1);
        Check.same("retold, both have a tie", camp.agrees(0, 1), true);
    }

    private static void liarsMayDoOtherwise() {
        // General 1 waits for attack, but it is a liar as well.
        Check.same("a liar does otherwise", Check.campBy(0, 1, 4, 0).agrees(0, 1), true);
        // The liar that commanded attacks alone.
        Check.same("the liar that commands does otherwise", Check.campBy(0, 3, 0, 0).agrees(0, 1), true);
    }

    private static void bySuchACouncilNow() {
        LiarTents camp = Check.camp(0, 0, 4);
        camp.hold(0, 1);
        Check.same("by 1 round", camp.agrees(0, 1), false);
        camp.setRounds(0);
        Check.same("by 0 rounds", camp.agrees(0, 1), true);
        camp.setRounds(1);
        camp.setKind(2, 0);
        Check.same("loyal now", camp.agrees(0, 1), true);
        camp.setKind(2, 3);
        Check.same("a liar now", camp.agrees(0, 1), false);
    }

    private static void oneThatCameBehindTheLatest() {
        LiarTents camp = Check.campBy(0, 1, 0);
        camp.hold(0, 1);
        Check.same("without it", camp.agrees(0, 1), true);
        camp.come();
        Check.same("with it", camp.agrees(0, 1), false);
        Check.same("it commands", camp.agrees(2, 1), true);
    }

    private static void nothingIsChanged() {
        LiarTents camp = Check.campBy(2, 0, 4, 1, 0);
        camp.hold(0, 1);
        String before = Check.everything(camp);
        for (int plan = 0; plan < 8; plan++) {
            camp.agrees(plan / 2, plan % 2);
        }
        Check.same("nothing is changed", Check.everything(camp), before);
    }

    private static void noSuchGeneral() {
        LiarTents camp = Check.loyal(3);
        Check.refusesEach("commander", camp, Check.BOUNDS, Check.notThere(3),
            general -> camp.agrees(general, 0));
        Check.refused("without generals", Check.BOUNDS, () -> new LiarTents().agrees(0, 0));
    }

    private static void noSuchOrder() {
        LiarTents camp = Check.loyal(3);
        Check.refusesEach("order", camp, Check.ARGUMENT, Check.beyond(0, 1), order -> camp.agrees(0, order));
        Check.refused("no such order, alone", Check.ARGUMENT, () -> Check.camp(4).agrees(0, 2));
    }

    private static void boundsAheadOfArgument() {
        LiarTents camp = Check.loyal(3);
        Check.refusedUnchanged("both", camp, Check.BOUNDS,
            () -> camp.agrees(3, 2), () -> camp.agrees(-1, -1));
    }
}
