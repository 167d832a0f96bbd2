/** Promise 1: a new object. */
public final class P01NewObjectTest {
    public static void main(String[] args) {
        withoutGenerals();
        withoutGeneralsNoNumberIsOne();
        withOneRound();
        withoutCouncils();
        objectsShareNothing();
        Check.end("P01NewObjectTest");
    }

    private static void withoutGenerals() {
        LiarTents camp = new LiarTents();
        Check.same("generals", camp.count(0), 0);
        Check.same("liars", camp.count(2), 0);
        Check.same("needs", camp.needs(), 0);
        Check.same("messengers", camp.messengers(3), 0);
        Check.same("the first general", camp.come(), 0);
    }

    private static void withoutGeneralsNoNumberIsOne() {
        LiarTents camp = new LiarTents();
        for (int general : Check.numbers(-1, 0, 1, 6, 7)) {
            Check.refusedUnchanged("no general " + general, camp, Check.BOUNDS,
                () -> camp.setKind(general, 0), () -> camp.hold(general, 0), () -> camp.does(general),
                () -> camp.took(general, general), () -> camp.told(general, 0),
                () -> camp.hears(general, general + 1, 0), () -> camp.would(general, 0, general),
                () -> camp.agrees(general, 0), () -> camp.found(general));
        }
    }

    private static void withOneRound() {
        Check.same("rounds", new LiarTents().count(1), 1);
        Check.same("the rounds before", new LiarTents().setRounds(3), 1);
    }

    private static void withoutCouncils() {
        LiarTents camp = new LiarTents();
        Check.counts("no council", camp, 3, 0, -1, -1, -1, -1, -1);
        Check.same("mean", camp.mean(), 0.0);
    }

    private static void objectsShareNothing() {
        LiarTents camp = new LiarTents();
        String before = Check.everything(camp);
        LiarTents other = Check.campBy(3, 4, 0, 1);
        other.hold(0, 1);
        Check.same("nothing is shared", Check.everything(camp), before);
        Check.same("nor with a later one", Check.everything(new LiarTents()), before);
    }
}
