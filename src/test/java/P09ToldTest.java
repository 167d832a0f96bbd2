/** Promise 9: told. */
public final class P09ToldTest {
    public static void main(String[] args) {
        itsKind();
        howOftenItAttacked();
        howOftenItCommanded();
        howOftenItDidOtherwise();
        theCommanderNeverDoesOtherwise();
        withoutCouncils();
        inAllWhateverIsChanged();
        aNewcomer();
        noneByQuestions();
        theFirstAndTheLast();
        noSuchGeneral();
        noSuchWhat();
        bothWrong();
        Check.end("P09ToldTest");
    }

    private static void itsKind() {
        LiarTents camp = Check.camp(0, 1, 2, 3, 4);
        for (int general = 0; general <= 4; general++) {
            Check.same("its kind", camp.told(general, 0), general);
        }
        camp.setKind(4, 0);
        Check.same("its kind now", camp.told(4, 0), 0);
    }

    private static void howOftenItAttacked() {
        LiarTents camp = Check.campBy(0, 0, 3, 0);
        camp.hold(1, 1);
        camp.hold(1, 0);
        camp.hold(0, 1);
        Check.same("by the last one only", camp.told(0, 1), 1);
        Check.same("as the commander too", camp.told(1, 1), 2);
        Check.same("as it was told", camp.told(2, 1), 1);
    }

    private static void howOftenItCommanded() {
        LiarTents camp = Check.loyal(3);
        camp.hold(1, 1);
        camp.hold(1, 0);
        camp.hold(2, 1);
        Check.same("never", camp.told(0, 2), 0);
        Check.same("twice", camp.told(1, 2), 2);
        Check.same("once", camp.told(2, 2), 1);
    }

    private static void howOftenItDidOtherwise() {
        LiarTents camp = Check.campBy(0, 0, 4, 0);
        camp.hold(1, 1);
        Check.same("wait for attack", camp.told(0, 3), 1);
        camp.hold(1, 0);
        Check.same("attack for wait", camp.told(0, 3), 2);
        camp.hold(2, 1);
        Check.same("as commanded", camp.told(0, 3), 2);
        Check.same("a liar that does as commanded", camp.told(1, 3), 0);
    }

    private static void theCommanderNeverDoesOtherwise() {
        for (int kind = 0; kind <= 4; kind++) {
            LiarTents camp = Check.camp(kind, 0, 0);
            camp.hold(0, 1);
            camp.hold(0, 0);
            Check.tells("a commander of kind " + kind, camp, 0, kind, 1, 2, 0);
        }
    }

    private static void withoutCouncils() {
        LiarTents camp = Check.camp(0, 3);
        Check.tells("no council", camp, 0, 0, 0, 0, 0);
        Check.tells("no council, a liar", camp, 1, 3, 0, 0, 0);
    }

    private static void inAllWhateverIsChanged() {
        LiarTents camp = Check.campBy(0, 4, 0);
        camp.hold(0, 0);
        camp.setKind(0, 0);
        camp.setKind(1, 2);
        camp.setRounds(3);
        camp.come();
        Check.tells("the commander", camp, 0, 0, 0, 1, 0);
        Check.tells("the other", camp, 1, 2, 1, 0, 1);
    }

    private static void aNewcomer() {
        LiarTents camp = Check.loyal(1);
        camp.hold(0, 1);
        camp.come();
        Check.tells("behind the council", camp, 1, 0, 0, 0, 0);
        camp.hold(0, 1);
        Check.tells("there by now", camp, 1, 0, 1, 0, 0);
    }

    private static void noneByQuestions() {
        LiarTents camp = Check.camp(4, 0);
        camp.hold(0, 0);
        camp.would(0, 0, 1);
        camp.agrees(0, 0);
        camp.needs();
        camp.digest();
        Check.refused("a refused council", Check.ARGUMENT, () -> camp.hold(0, -1));
        Check.tells("one council", camp, 0, 4, 0, 1, 0);
        Check.tells("one council", camp, 1, 0, 1, 0, 1);
    }

    private static void theFirstAndTheLast() {
        LiarTents camp = Check.campBy(0, 3, 0, 0, 0, 0, 0, 2);
        camp.hold(0, 1);
        camp.hold(6, 1);
        Check.tells("the first", camp, 0, 3, 1, 1, 1);
        Check.tells("the last", camp, 6, 2, 1, 1, 1);
    }

    private static void noSuchGeneral() {
        LiarTents camp = Check.loyal(4);
        Check.refusesEach("general", camp, Check.BOUNDS, Check.notThere(4), general -> camp.told(general, 0));
        Check.refused("without generals", Check.BOUNDS, () -> new LiarTents().told(0, 0));
        Check.refused("general 7 of 7", Check.BOUNDS, () -> Check.loyal(7).told(7, 0));
    }

    private static void noSuchWhat() {
        LiarTents camp = Check.loyal(4);
        Check.refusesEach("what", camp, Check.BOUNDS, Check.beyond(0, 3), what -> camp.told(0, what));
    }

    private static void bothWrong() {
        LiarTents camp = Check.loyal(4);
        Check.refusedUnchanged("both", camp, Check.BOUNDS, () -> camp.told(4, 4), () -> camp.told(-1, -1));
    }
}
