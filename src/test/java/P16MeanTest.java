/** Promise 16: mean. */
public final class P16MeanTest {
    public static void main(String[] args) {
        withoutAny();
        nobodyAttacked();
        allAttacked();
        notCutToAWholeNumber();
        ofAllCouncils();
        ofCampsThatGrow();
        liarsAndCommandersToo();
        noneByQuestions();
        Check.end("P16MeanTest");
    }

    private static void withoutAny() {
        Check.same("a new camp", new LiarTents().mean(), 0.0);
        LiarTents camp = Check.loyal(3);
        Check.refused("a refused council", Check.ARGUMENT, () -> camp.hold(0, 2));
        Check.same("no council", camp.mean(), 0.0);
    }

    private static void nobodyAttacked() {
        LiarTents camp = Check.loyal(3);
        camp.hold(0, 0);
        Check.same("one council", camp.mean(), 0.0);
    }

    private static void allAttacked() {
        LiarTents camp = Check.loyal(7);
        camp.hold(0, 1);
        camp.hold(6, 1);
        Check.same("seven each", camp.mean(), 7.0);
    }

    private static void notCutToAWholeNumber() {
        LiarTents camp = Check.loyal(3);
        camp.hold(0, 1);
        camp.hold(0, 0);
        Check.same("3 of 2", camp.mean(), 1.5);
        LiarTents one = Check.loyal(1);
        one.hold(0, 0);
        one.hold(0, 1);
        one.hold(0, 0);
        Check.same("1 of 3", one.mean(), 1.0 / 3.0);
    }

    private static void ofAllCouncils() {
        LiarTents camp = Check.loyal(3);
        double[] due = {3.0, 1.5, 1.0, 6.0 / 4.0, 9.0 / 5.0, 9.0 / 6.0, 9.0 / 7.0};
        int[] orders = {1, 0, 0, 1, 1, 0, 0};
        for (int council = 0; council < orders.length; council++) {
            camp.hold(0, orders[council]);
            Check.same("council " + council, camp.mean(), due[council]);
        }
    }

    private static void ofCampsThatGrow() {
        LiarTents camp = Check.loyal(1);
        camp.hold(0, 1);
        camp.come();
        camp.hold(0, 1);
        camp.come();
        camp.come();
        Check.same("1 and 2", camp.mean(), 1.5);
        camp.hold(3, 1);
        Check.same("1 and 2 and 4", camp.mean(), 7.0 / 3.0);
    }

    private static void liarsAndCommandersToo() {
        LiarTents camp = Check.campBy(0, 3, 0, 4);
        camp.hold(0, 1);
        Check.same("the liar that commands", camp.mean(), 1.0);
        camp.hold(1, 1);
        Check.same("a loyal one and two liars", camp.mean(), 2.0);
        camp.setKind(0, 0);
        camp.setKind(1, 3);
        Check.same("whatever is changed", camp.mean(), 2.0);
    }

    private static void noneByQuestions() {
        LiarTents camp = Check.loyal(2);
        camp.hold(0, 1);
        camp.would(0, 0, 1);
        camp.agrees(1, 0);
        camp.needs();
        camp.digest();
        Check.refused("no such general", Check.BOUNDS, () -> camp.hold(2, 0));
        Check.same("one council", camp.mean(), 2.0);
    }
}
