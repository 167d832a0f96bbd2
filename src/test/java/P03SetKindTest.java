/** Promise 3: setKind. */
public final class P03SetKindTest {
    public static void main(String[] args) {
        theKindBefore();
        eachKind();
        theFirstAndTheLastGeneral();
        fromNowOn();
        theLatestCouncilStays();
        noSuchGeneral();
        aGeneralThatIsYetToCome();
        noSuchKind();
        bothWrong();
        Check.end("P03SetKindTest");
    }

    private static void theKindBefore() {
        LiarTents camp = Check.loyal(1);
        int before = 0;
        for (int kind : Check.numbers(1, 2, 3, 4, 4, 0, 0, 4, 1)) {
            Check.same("the kind before " + kind, camp.setKind(0, kind), before);
            before = kind;
        }
    }

    private static void eachKind() {
        LiarTents camp = Check.loyal(3);
        for (int kind : Check.numbers(0, 1, 2, 3, 4)) {
            camp.setKind(1, kind);
            Check.same("the kind", camp.told(1, 0), kind);
            Check.same("liars", camp.count(2), kind == 0 ? 0 : 1);
            Check.same("others keep theirs", camp.told(0, 0) + camp.told(2, 0), 0);
        }
    }

    private static void theFirstAndTheLastGeneral() {
        LiarTents camp = Check.loyal(7);
        Check.same("the first", camp.setKind(0, 4), 0);
        Check.same("the last", camp.setKind(6, 3), 0);
        Check.same("liars", camp.count(2), 2);
        Check.same("the first is it", camp.told(0, 0), 4);
        Check.same("the last is it", camp.told(6, 0), 3);
    }

    private static void fromNowOn() {
        LiarTents camp = Check.campBy(0, 0, 0);
        camp.hold(0, 1);
        camp.setKind(0, 4);
        Check.same("it tells as a liar now", camp.hears(0, 1, 1), 0);
        Check.same("it would be found now", camp.found(0), 1);
        Check.same("by a council now", camp.would(0, 1, 1), 0);
        Check.held("by the next council", camp, 0, 1, "10");
        camp.setKind(0, 0);
        Check.held("and loyal again", camp, 0, 1, "11");
    }

    private static void theLatestCouncilStays() {
        LiarTents camp = Check.campBy(2, 0, 1, 0, 4);
        camp.hold(1, 1);
        String before = Check.latest(camp, 4);
        for (int general = 0; general < 4; general++) {
            camp.setKind(general, 4 - general);
        }
        Check.same("the latest council stays", Check.latest(camp, 4), before);
    }

    private static void noSuchGeneral() {
        LiarTents camp = Check.camp(0, 2, 0);
        Check.refusesEach("general", camp, Check.BOUNDS, Check.notThere(3),
            general -> camp.setKind(general, 1));
        Check.refused("without generals", Check.BOUNDS, () -> new LiarTents().setKind(0, 0));
    }

    private static void aGeneralThatIsYetToCome() {
        LiarTents camp = Check.loyal(2);
        Check.refusedUnchanged("yet to come", camp, Check.BOUNDS, () -> camp.setKind(2, 3));
        camp.come();
        Check.same("it came, and is loyal", camp.setKind(2, 3), 0);
    }

    private static void noSuchKind() {
        LiarTents camp = Check.camp(0, 2, 0);
        Check.refusesEach("kind", camp, Check.BOUNDS, Check.beyond(0, 4), kind -> camp.setKind(1, kind));
    }

    private static void bothWrong() {
        LiarTents camp = Check.loyal(3);
        Check.refusedUnchanged("both", camp, Check.BOUNDS, () -> camp.setKind(3, 5), () -> camp.setKind(-1, -1));
    }
}
