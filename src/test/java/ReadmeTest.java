/** What README.md shows and says of the calls, in its order. */
public final class ReadmeTest {
    public static void main(String[] args) {
        theExample();
        whatIsRefusedForBounds();
        whatIsRefusedForArguments();
        whatIsRefusedForTheState();
        Check.end("ReadmeTest");
    }

    private static void theExample() {
        LiarTents camp = new LiarTents();
        for (int number = 0; number <= 3; number++) {
            Check.same("come", camp.come(), number);
        }
        Check.same("setKind", camp.setKind(3, 4), 0);
        Check.same("agrees", camp.agrees(0, 1), true);
        Check.same("hold", camp.hold(0, 1), 4);
        Check.same("does", camp.does(1), 1);
        Check.same("took", camp.took(1, 3), 0);
        Check.same("count", camp.count(4), 9);
        Check.same("hears", camp.hears(3, 0, 1), 0);
        Check.same("found", camp.found(3), 3);
        Check.same("messengers", camp.messengers(2), 15);
        Check.same("needs", camp.needs(), 0);
        Check.same("mean", camp.mean(), 4.0);
    }

    private static void whatIsRefusedForBounds() {
        LiarTents camp = Check.loyal(3);
        camp.hold(0, 1);
        camp.come();
        Check.refusedUnchanged("no such general", camp, Check.BOUNDS,
            () -> camp.setKind(4, 0), () -> camp.hold(4, 0), () -> camp.does(4), () -> camp.took(1, 4),
            () -> camp.told(4, 0), () -> camp.hears(0, 4, 0), () -> camp.would(0, 0, 4),
            () -> camp.agrees(4, 0), () -> camp.found(4));
        Check.refusedUnchanged("it came behind the latest council", camp, Check.BOUNDS,
            () -> camp.does(3), () -> camp.took(3, 1), () -> camp.took(1, 3));
        Check.refused("no such kind", Check.BOUNDS, () -> camp.setKind(0, 5));
        Check.refused("no such count", Check.BOUNDS, () -> camp.count(9));
        Check.refused("no such thing to tell", Check.BOUNDS, () -> camp.told(0, 4));
    }

    private static void whatIsRefusedForArguments() {
        LiarTents camp = Check.loyal(3);
        Check.refusedUnchanged("other orders", camp, Check.ARGUMENT,
            () -> camp.hold(0, 2), () -> camp.hears(0, 1, 2), () -> camp.would(0, 2, 1), () -> camp.agrees(0, 2));
        Check.refusedUnchanged("other rounds", camp, Check.ARGUMENT,
            () -> camp.setRounds(4), () -> camp.messengers(4));
        Check.refusedUnchanged("one that would hear itself", camp, Check.ARGUMENT, () -> camp.hears(1, 1, 0));
    }

    private static void whatIsRefusedForTheState() {
        LiarTents camp = Check.loyal(7);
        Check.refusedUnchanged("an eighth, and no council", camp, Check.STATE,
            camp::come, () -> camp.does(0), () -> camp.took(1, 0));
        LiarTents commanded = Check.loyal(2);
        commanded.hold(0, 1);
        Check.refusedUnchanged("of the one that commanded", commanded, Check.STATE, () -> commanded.took(0, 1));
    }
}
