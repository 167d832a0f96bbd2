/** Promise 2: come. */
public final class P02ComeTest {
    public static void main(String[] args) {
        theNumberOfANewGeneral();
        aNewGeneralIsLoyal();
        aNewGeneralBehindCouncils();
        aSeventhComes();
        anEighthIsRefused();
        Check.end("P02ComeTest");
    }

    private static void theNumberOfANewGeneral() {
        LiarTents camp = new LiarTents();
        for (int number = 0; number < 7; number++) {
            Check.same("the number", camp.come(), number);
            Check.same("generals", camp.count(0), number + 1);
        }
    }

    private static void aNewGeneralIsLoyal() {
        LiarTents camp = new LiarTents();
        for (int number = 0; number < 7; number++) {
            camp.come();
            Check.same("a newcomer is loyal", camp.told(number, 0), 0);
            Check.same("liars are those before", camp.count(2), number);
            camp.setKind(number, 1 + number % 4);
        }
    }

    private static void aNewGeneralBehindCouncils() {
        LiarTents camp = Check.camp(0, 4);
        camp.hold(1, 1);
        camp.hold(0, 0);
        String before = Check.latest(camp, 2);
        int newcomer = camp.come();
        Check.tells("a newcomer did nothing yet", camp, newcomer, 0, 0, 0, 0);
        Check.same("the latest council stays", Check.latest(camp, 2), before);
        Check.same("the next one has it", camp.hold(newcomer, 1), 2);
    }

    private static void aSeventhComes() {
        LiarTents camp = Check.loyal(6);
        Check.same("the seventh", camp.come(), 6);
    }

    private static void anEighthIsRefused() {
        LiarTents camp = Check.camp(0, 1, 2, 3, 4, 0, 1);
        camp.hold(2, 1);
        Check.refusedUnchanged("with 7", camp, Check.STATE, camp::come, camp::come);
        Check.same("seven are there", camp.count(0), 7);
        Check.refused("no general 7", Check.BOUNDS, () -> camp.told(7, 0));
    }
}
