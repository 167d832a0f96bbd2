/** Promise 11: would. */
public final class P11WouldTest {
    public static void main(String[] args) {
        asACouncilWouldGo();
        theCommanderItself();
        bySuchACouncilNow();
        oneThatCameBehindTheLatest();
        alone();
        nothingIsChanged();
        noSuchCommander();
        noSuchGeneral();
        noSuchOrder();
        boundsAheadOfArgument();
        Check.end("P11WouldTest");
    }

    private static void asACouncilWouldGo() {
        int[][] camps = {{0, 0, 4, 4}, {1, 2, 0, 0, 3}, {0, 3, 0, 4, 0, 2, 1}};
        for (int[] kinds : camps) {
            for (int plan = 0; plan < 8 * kinds.length; plan++) {
                LiarTents camp = Check.campBy(plan / 2 % 4, kinds);
                StringBuilder would = new StringBuilder();
                for (int general = 0; general < kinds.length; general++) {
                    would.append(camp.would(plan / 8, plan % 2, general));
                }
                camp.hold(plan / 8, plan % 2);
                Check.same("as the council goes", would.toString(), Check.done(camp));
            }
        }
    }

    private static void theCommanderItself() {
        for (int kind = 0; kind <= 4; kind++) {
            LiarTents camp = Check.camp(0, kind, 0);
            Check.same("wait of kind " + kind, camp.would(1, 0, 1), 0);
            Check.same("attack of kind " + kind, camp.would(1, 1, 1), 1);
        }
    }

    private static void bySuchACouncilNow() {
        LiarTents camp = Check.camp(0, 0, 4, 4);
        camp.hold(0, 0);
        Check.same("by 1 round", camp.would(0, 1, 1), 0);
        camp.setRounds(0);
        Check.same("by 0 rounds", camp.would(0, 1, 1), 1);
        camp.setKind(0, 4);
        Check.same("of a liar now", camp.would(0, 1, 1), 0);
        Check.same("another order", camp.would(0, 0, 1), 1);
        Check.same("another commander", camp.would(1, 1, 0), 1);
    }

    private static void oneThatCameBehindTheLatest() {
        LiarTents camp = Check.loyal(2);
        camp.hold(0, 0);
        camp.come();
        Check.same("as a general", camp.would(0, 1, 2), 1);
        Check.same("as the commander", camp.would(2, 1, 0), 1);
    }

    private static void alone() {
        LiarTents camp = Check.camp(3);
        Check.same("wait", camp.would(0, 0, 0), 0);
        Check.same("attack", camp.would(0, 1, 0), 1);
    }

    private static void nothingIsChanged() {
        LiarTents camp = Check.campBy(2, 0, 4, 1, 0);
        Check.same("without a council", camp.would(1, 1, 1), 1);
        Check.refused("there is none by it", Check.STATE, () -> camp.does(1));
        camp.hold(0, 1);
        String before = Check.everything(camp);
        for (int plan = 0; plan < 8; plan++) {
            camp.would(plan / 2, plan % 2, 3);
        }
        Check.same("nothing is changed", Check.everything(camp), before);
    }

    private static void noSuchCommander() {
        LiarTents camp = Check.loyal(3);
        Check.refusesEach("commander", camp, Check.BOUNDS, Check.notThere(3),
            general -> camp.would(general, 0, 0));
    }

    private static void noSuchGeneral() {
        LiarTents camp = Check.loyal(3);
        Check.refusesEach("general", camp, Check.BOUNDS, Check.notThere(3),
            general -> camp.would(0, 0, general));
    }

    private static void noSuchOrder() {
        LiarTents camp = Check.loyal(3);
        Check.refusesEach("order", camp, Check.ARGUMENT, Check.beyond(0, 1), order -> camp.would(0, order, 1));
        Check.refusesEach("order of the commander", camp, Check.ARGUMENT, Check.beyond(0, 1),
            order -> camp.would(0, order, 0));
    }

    private static void boundsAheadOfArgument() {
        LiarTents camp = Check.loyal(3);
        Check.refusedUnchanged("order and general", camp, Check.BOUNDS, () -> camp.would(0, 2, 3));
        Check.refusedUnchanged("order and commander", camp, Check.BOUNDS, () -> camp.would(3, 2, 0));
        Check.refusedUnchanged("all", camp, Check.BOUNDS, () -> camp.would(-1, -1, -1));
        Check.refused("without generals", Check.BOUNDS, () -> new LiarTents().would(0, 0, 0));
    }
}
