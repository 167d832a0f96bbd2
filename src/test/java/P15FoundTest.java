/** Promise 15: found. */
public final class P15FoundTest {
    public static void main(String[] args) {
        aLoyalOne();
        kindOneByOddNumbers();
        kindTwoByAll();
        kindThreeByThoseToldToAttack();
        kindFourByAll();
        ofTheOthersOnly();
        liarsCouldTellToo();
        withoutOthers();
        asItIsNow();
        nothingIsChanged();
        noSuchGeneral();
        Check.end("P15FoundTest");
    }

    private static int foundOf(int generals, int general, int kind) {
        LiarTents camp = Check.loyal(generals);
        camp.setKind(general, kind);
        return camp.found(general);
    }

    private static void aLoyalOne() {
        for (int general = 0; general < 7; general++) {
            Check.same("loyal", foundOf(7, general, 0), 0);
        }
        Check.same("loyal among liars", Check.camp(4, 0, 3).found(1), 0);
    }

    private static void kindOneByOddNumbers() {
        Check.same("an even one of seven", foundOf(7, 4, 1), 3);
        Check.same("an odd one of seven", foundOf(7, 3, 1), 2);
        Check.same("the first of two", foundOf(2, 0, 1), 1);
        Check.same("the second of two", foundOf(2, 1, 1), 0);
    }

    private static void kindTwoByAll() {
        // Those below hear wait for attack, the others attack for wait.
        Check.same("in the middle", foundOf(7, 3, 2), 6);
        Check.same("the first", foundOf(7, 0, 2), 6);
        Check.same("the last", foundOf(7, 6, 2), 6);
    }

    private static void kindThreeByThoseToldToAttack() {
        Check.same("one of seven", foundOf(7, 3, 3), 6);
        Check.same("one of two", foundOf(2, 0, 3), 1);
    }

    private static void kindFourByAll() {
        Check.same("one of seven", foundOf(7, 6, 4), 6);
        Check.same("one of two", foundOf(2, 1, 4), 1);
    }

    private static void ofTheOthersOnly() {
        // An odd one of kind 1 would turn what it told itself.
        Check.same("not itself", foundOf(4, 1, 1), 1);
        Check.same("not itself, with all others", foundOf(4, 1, 4), 3);
    }

    private static void liarsCouldTellToo() {
        Check.same("liars alone", Check.camp(4, 4, 3).found(0), 2);
        Check.same("an odd liar", Check.camp(0, 1, 0, 4).found(1), 1);
    }

    private static void withoutOthers() {
        for (int kind = 0; kind <= 4; kind++) {
            Check.same("alone, kind " + kind, Check.camp(kind).found(0), 0);
        }
    }

    private static void asItIsNow() {
        LiarTents camp = Check.camp(4, 0);
        camp.hold(0, 1);
        Check.same("a liar", camp.found(0), 1);
        camp.come();
        Check.same("a newcomer could tell", camp.found(0), 2);
        camp.setRounds(0);
        Check.same("by any rounds", camp.found(0), 2);
        camp.setKind(0, 0);
        Check.same("loyal now", camp.found(0), 0);
    }

    private static void nothingIsChanged() {
        LiarTents camp = Check.campBy(2, 0, 4, 1, 0);
        camp.hold(0, 1);
        String before = Check.everything(camp);
        camp.found(1);
        camp.found(2);
        Check.same("nothing is changed", Check.everything(camp), before);
    }

    private static void noSuchGeneral() {
        LiarTents camp = Check.camp(0, 4);
        Check.refusesEach("general", camp, Check.BOUNDS, Check.notThere(2), general -> camp.found(general));
        Check.refused("without generals", Check.BOUNDS, () -> new LiarTents().found(0));
        Check.refused("general 7 of 7", Check.BOUNDS, () -> Check.loyal(7).found(7));
    }
}
