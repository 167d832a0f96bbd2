/** Promise 10: hears. */
public final class P10HearsTest {
    public static void main(String[] args) {
        whatEachKindTells();
        theFirstAndTheLast();
        whateverTheHearerIs();
        nothingIsChanged();
        noSuchFirstGeneral();
        noSuchSecondGeneral();
        bothAreTheSame();
        noSuchOrder();
        boundsAheadOfArgument();
        Check.end("P10HearsTest");
    }

    /** What all others hear of general 3, which is of this kind. */
    private static String heardOfThree(int kind, int order) {
        LiarTents camp = Check.camp(0, 4, 0, kind, 0, 3, 0);
        StringBuilder heard = new StringBuilder();
        for (int to : Check.numbers(0, 1, 2, 4, 5, 6)) {
            heard.append(camp.hears(3, to, order));
        }
        return heard.toString();
    }

    private static void whatEachKindTells() {
        String[] ofWait = {"000000", "010010", "000111", "000000", "111111"};
        String[] ofAttack = {"111111", "101101", "000111", "000000", "000000"};
        for (int kind = 0; kind <= 4; kind++) {
            Check.same("wait of kind " + kind, heardOfThree(kind, 0), ofWait[kind]);
            Check.same("attack of kind " + kind, heardOfThree(kind, 1), ofAttack[kind]);
        }
    }

    private static void theFirstAndTheLast() {
        LiarTents camp = Check.camp(2, 0, 0, 0, 0, 0, 2);
        Check.same("the last of the first", camp.hears(0, 6, 0), 1);
        Check.same("the first of the last", camp.hears(6, 0, 1), 0);
        Check.same("its neighbour above", camp.hears(0, 1, 0), 1);
        Check.same("its neighbour below", camp.hears(6, 5, 1), 0);
    }

    private static void whateverTheHearerIs() {
        for (int kind = 0; kind <= 4; kind++) {
            LiarTents camp = Check.camp(0, kind);
            Check.same("kind " + kind + " hears wait", camp.hears(0, 1, 0), 0);
            Check.same("kind " + kind + " hears attack", camp.hears(0, 1, 1), 1);
        }
    }

    private static void nothingIsChanged() {
        LiarTents camp = Check.camp(0, 4, 1);
        camp.hold(0, 1);
        String before = Check.everything(camp);
        camp.hears(1, 0, 1);
        camp.hears(2, 1, 0);
        Check.same("nothing is changed", Check.everything(camp), before);
    }

    private static void noSuchFirstGeneral() {
        LiarTents camp = Check.loyal(2);
        Check.refusesEach("from", camp, Check.BOUNDS, Check.notThere(2), general -> camp.hears(general, 0, 0));
    }

    private static void noSuchSecondGeneral() {
        LiarTents camp = Check.loyal(2);
        Check.refusesEach("to", camp, Check.BOUNDS, Check.notThere(2), general -> camp.hears(0, general, 0));
    }

    private static void bothAreTheSame() {
        LiarTents camp = Check.camp(0, 4);
        Check.refusedUnchanged("the same", camp, Check.ARGUMENT,
            () -> camp.hears(0, 0, 0), () -> camp.hears(0, 0, 1), () -> camp.hears(1, 1, 0),
            () -> camp.hears(1, 1, 2));
    }

    private static void noSuchOrder() {
        LiarTents camp = Check.camp(0, 2);
        Check.refusesEach("order of a loyal one", camp, Check.ARGUMENT, Check.beyond(0, 1),
            order -> camp.hears(0, 1, order));
        Check.refusesEach("order of a liar", camp, Check.ARGUMENT, Check.beyond(0, 1),
            order -> camp.hears(1, 0, order));
    }

    private static void boundsAheadOfArgument() {
        LiarTents camp = Check.loyal(2);
        Check.refusedUnchanged("the same, and not there", camp, Check.BOUNDS,
            () -> camp.hears(2, 2, 0), () -> camp.hears(-1, -1, 0), () -> camp.hears(2, 2, 2));
        Check.refusedUnchanged("no such order, and not there", camp, Check.BOUNDS,
            () -> camp.hears(2, 0, 2), () -> camp.hears(0, 2, -1));
        Check.refused("without generals", Check.BOUNDS, () -> new LiarTents().hears(0, 0, 0));
    }
}
