/** Promise 6: does. */
public final class P06DoesTest {
    public static void main(String[] args) {
        theOrderItDoes();
        theCommander();
        byTheLatestCouncil();
        theFirstAndTheLast();
        noSuchGeneral();
        itCameBehindThatCouncil();
        itCameBehindAnEarlierOne();
        noCouncil();
        noCouncilAndNoSuchGeneral();
        Check.end("P06DoesTest");
    }

    private static void theOrderItDoes() {
        LiarTents camp = Check.campBy(0, 0, 2, 0);
        camp.hold(1, 1);
        Check.same("wait", camp.does(0), 0);
        Check.same("attack", camp.does(2), 1);
    }

    private static void theCommander() {
        LiarTents camp = Check.camp(0, 4);
        camp.hold(0, 1);
        Check.same("a loyal one", camp.does(0), 1);
        camp.hold(1, 0);
        Check.same("a liar", camp.does(1), 0);
        Check.same("who heard it", camp.does(0), 1);
    }

    private static void byTheLatestCouncil() {
        LiarTents camp = Check.loyal(2);
        camp.hold(0, 1);
        camp.hold(0, 0);
        Check.same("the later one", camp.does(1), 0);
        camp.setKind(0, 4);
        Check.same("not by one that would be", camp.does(1), 0);
    }

    private static void theFirstAndTheLast() {
        LiarTents camp = Check.campBy(0, 0, 0, 0, 2, 0, 0, 0);
        camp.hold(3, 0);
        Check.same("the first", camp.does(0), 0);
        Check.same("the last", camp.does(6), 1);
    }

    private static void noSuchGeneral() {
        LiarTents camp = Check.loyal(3);
        camp.hold(0, 1);
        Check.refusesEach("general", camp, Check.BOUNDS, Check.notThere(3), general -> camp.does(general));
        LiarTents full = Check.loyal(7);
        full.hold(0, 1);
        Check.refusedUnchanged("general 7 of 7", full, Check.BOUNDS, () -> full.does(7));
    }

    private static void itCameBehindThatCouncil() {
        LiarTents camp = Check.loyal(2);
        camp.hold(0, 1);
        camp.come();
        camp.come();
        Check.refusedUnchanged("came behind it", camp, Check.BOUNDS, () -> camp.does(2), () -> camp.does(3));
        Check.same("one that was there", camp.does(1), 1);
    }

    private static void itCameBehindAnEarlierOne() {
        LiarTents camp = Check.loyal(2);
        camp.hold(0, 1);
        camp.come();
        camp.hold(0, 1);
        Check.same("there by now", camp.does(2), 1);
    }

    private static void noCouncil() {
        LiarTents camp = Check.loyal(3);
        Check.refusedUnchanged("no council", camp, Check.STATE, () -> camp.does(0), () -> camp.does(2));
        Check.refused("no council but a refused one", Check.ARGUMENT, () -> camp.hold(0, 2));
        Check.refused("still no council", Check.STATE, () -> camp.does(0));
        camp.would(0, 1, 1);
        camp.digest();
        Check.refused("none by questions", Check.STATE, () -> camp.does(0));
    }

    private static void noCouncilAndNoSuchGeneral() {
        LiarTents camp = Check.loyal(3);
        Check.refusedUnchanged("the general first", camp, Check.BOUNDS, () -> camp.does(3), () -> camp.does(-1));
        Check.refused("without generals", Check.BOUNDS, () -> new LiarTents().does(0));
    }
}
