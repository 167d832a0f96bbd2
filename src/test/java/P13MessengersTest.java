/** Promise 13: messengers. */
public final class P13MessengersTest {
    public static void main(String[] args) {
        ofAllGeneralsBySoManyRounds();
        withoutOthers();
        whateverTheKinds();
        whateverTheRoundsAre();
        asACouncilTakes();
        nothingIsChanged();
        noSuchRounds();
        Check.end("P13MessengersTest");
    }

    private static void ofAllGeneralsBySoManyRounds() {
        int[][] due = {
            {1, 1, 1, 1}, {2, 4, 4, 4}, {3, 9, 15, 15}, {4, 16, 40, 64}, {5, 25, 85, 205}, {6, 36, 156, 516}
        };
        for (int generals = 2; generals <= 7; generals++) {
            LiarTents camp = Check.loyal(generals);
            for (int rounds = 0; rounds <= 3; rounds++) {
                int got = camp.messengers(rounds);
                Check.same(generals + " generals, rounds " + rounds, got, due[generals - 2][rounds]);
            }
        }
    }

    private static void withoutOthers() {
        for (int rounds = 0; rounds <= 3; rounds++) {
            Check.same("without generals", new LiarTents().messengers(rounds), 0);
            Check.same("one alone", Check.loyal(1).messengers(rounds), 0);
        }
    }

    private static void whateverTheKinds() {
        Check.same("a silent one", Check.camp(0, 3, 0, 0).messengers(2), 15);
        Check.same("silent ones alone", Check.camp(3, 3, 3, 3).messengers(2), 15);
        Check.same("liars alone", Check.camp(1, 2, 3, 4).messengers(1), 9);
    }

    private static void whateverTheRoundsAre() {
        LiarTents camp = Check.campBy(3, 0, 0, 0, 0);
        Check.same("by 0, where there are 3", camp.messengers(0), 3);
        camp.setRounds(0);
        Check.same("by 3, where there are 0", camp.messengers(3), 15);
    }

    private static void asACouncilTakes() {
        for (int plan = 0; plan < 28; plan++) {
            LiarTents camp = Check.loyal(1 + plan / 4);
            camp.setRounds(plan % 4);
            camp.hold(0, 1);
            Check.same("as a council takes", camp.messengers(plan % 4), camp.count(4));
        }
    }

    private static void nothingIsChanged() {
        LiarTents camp = Check.campBy(2, 0, 4, 1, 0);
        camp.hold(0, 1);
        String before = Check.everything(camp);
        for (int rounds = 0; rounds <= 3; rounds++) {
            camp.messengers(rounds);
        }
        Check.same("nothing is changed", Check.everything(camp), before);
    }

    private static void noSuchRounds() {
        LiarTents camp = Check.campBy(2, 0, 4);
        Check.refusesEach("rounds", camp, Check.ARGUMENT, Check.beyond(0, 3), rounds -> camp.messengers(rounds));
        LiarTents empty = new LiarTents();
        Check.refusesEach("rounds without generals", empty, Check.ARGUMENT, Check.beyond(0, 3),
            rounds -> empty.messengers(rounds));
    }
}
