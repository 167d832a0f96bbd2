/** Promises 10 to 16: hears, would, agrees, messengers, needs, found, mean. */
public final class ForesightTest {
    private static final Class<IndexOutOfBoundsException> BOUNDS = IndexOutOfBoundsException.class;
    private static final Class<IllegalArgumentException> ARGUMENT = IllegalArgumentException.class;

    public static void main(String[] args) {
        promise10Hears();
        promise10HearsRefuses();
        promise11Would();
        promise12Agrees();
        promise13Messengers();
        promise14Needs();
        promise15Found();
        promise16Mean();
        Check.end("ForesightTest");
    }

    /** What all others hear of general 3, which is of this kind. */
    private static String heardOfThree(int kind, int order) {
        LiarTents camp = Check.camp(0, 4, 0, kind, 0, 3, 0);
        StringBuilder heard = new StringBuilder();
        for (int to : new int[] {0, 1, 2, 4, 5, 6}) {
            heard.append(camp.hears(3, to, order));
        }
        return heard.toString();
    }

    private static void promise10Hears() {
        String[] ofWait = {"000000", "010010", "000111", "000000", "111111"};
        String[] ofAttack = {"111111", "101101", "000111", "000000", "000000"};
        for (int kind = 0; kind <= 4; kind++) {
            Check.same("P10 wait of kind " + kind, heardOfThree(kind, 0), ofWait[kind]);
            Check.same("P10 attack of kind " + kind, heardOfThree(kind, 1), ofAttack[kind]);
        }
    }

    private static void promise10HearsRefuses() {
        LiarTents camp = Check.camp(0, 0);
        Check.refused("P10 from -1", BOUNDS, () -> camp.hears(-1, 0, 0));
        Check.refused("P10 from 2 of 2", BOUNDS, () -> camp.hears(2, 0, 0));
        Check.refused("P10 to -1", BOUNDS, () -> camp.hears(0, -1, 0));
        Check.refused("P10 to 2 of 2", BOUNDS, () -> camp.hears(0, 2, 0));
        Check.refused("P10 to 7", BOUNDS, () -> camp.hears(0, 7, 0));
        Check.refused("P10 the same", ARGUMENT, () -> camp.hears(1, 1, 0));
        Check.refused("P10 order -1", ARGUMENT, () -> camp.hears(0, 1, -1));
        Check.refused("P10 order 2", ARGUMENT, () -> camp.hears(0, 1, 2));
        Check.refused("P10 the same, that is not there", BOUNDS, () -> camp.hears(2, 2, 0));
        Check.refused("P10 all", BOUNDS, () -> camp.hears(2, 2, 2));
        Check.refused("P10 to and order", BOUNDS, () -> camp.hears(0, 2, 2));
    }

    private static void promise11Would() {
        LiarTents camp = Check.camp(0, 0, 4, 4);
        Check.same("P11 the commander", camp.would(2, 1, 2), 1);
        Check.same("P11 a loyal one between liars", camp.would(0, 1, 1), 0);
        Check.same("P11 a liar", camp.would(0, 1, 2), 1);
        camp.setRounds(0);
        Check.same("P11 by 0 rounds", camp.would(0, 1, 1), 1);
        camp.hold(0, 1);
        String before = Check.everything(camp);
        Check.same("P11 another commander", camp.would(2, 1, 0), 0);
        Check.same("P11 another order", camp.would(2, 0, 0), 1);
        Check.same("P11 nothing is changed", Check.everything(camp), before);
        Check.same("P11 no council more", camp.count(3), 1);
        camp.come();
        Check.same("P11 one that came behind the latest", camp.would(4, 1, 4), 1);
        Check.same("P11 of one that came behind the latest", camp.would(4, 1, 0), 1);
        Check.refused("P11 commander -1", BOUNDS, () -> camp.would(-1, 0, 0));
        Check.refused("P11 commander 5 of 5", BOUNDS, () -> camp.would(5, 0, 0));
        Check.refused("P11 general -1", BOUNDS, () -> camp.would(0, 0, -1));
        Check.refused("P11 general 5 of 5", BOUNDS, () -> camp.would(0, 0, 5));
        Check.refused("P11 order -1", ARGUMENT, () -> camp.would(0, -1, 0));
        Check.refused("P11 order 2", ARGUMENT, () -> camp.would(0, 2, 0));
        Check.refused("P11 order and general", BOUNDS, () -> camp.would(0, 2, 5));
        Check.refused("P11 order and commander", BOUNDS, () -> camp.would(5, 2, 0));
    }

    private static void promise12Agrees() {
        Check.same("P12 one alone", Check.camp(0).agrees(0, 1), true);
        Check.same("P12 no loyal ones", Check.camp(4, 1).agrees(0, 1), true);
        Check.same("P12 one loyal one, a liar commands", Check.camp(4, 0).agrees(0, 1), true);
        Check.same("P12 all loyal", Check.camp(0, 0, 0).agrees(1, 0), true);
        LiarTents three = Check.camp(0, 0, 4);
        Check.same("P12 a tie against the order", three.agrees(0, 1), false);
        Check.same("P12 a tie for the order", three.agrees(0, 0), true);
        three.setRounds(0);
        Check.same("P12 by 0 rounds", three.agrees(0, 1), true);
        // Both wait, and the order was to attack; but the commander is a liar.
        Check.same("P12 a liar's order binds nobody", three.agrees(2, 1), true);
        LiarTents split = Check.camp(1, 0, 0);
        split.setRounds(0);
        Check.same("P12 a split", split.agrees(0, 1), false);
        split.setRounds(1);
        Check.same("P12 a split retold", split.agrees(0, 1), true);
        // The one other loyal one does otherwise than the loyal commander.
        Check.same("P12 commander and one other", Check.camp(0, 0, 3, 3).agrees(0, 1), false);
        // The liar's kind counts now, not its kind in the latest council.
        LiarTents turned = Check.camp(0, 0, 4);
        turned.hold(0, 1);
        turned.setKind(2, 0);
        Check.same("P12 loyal now", turned.agrees(0, 1), true);
        Check.refused("P12 commander -1", BOUNDS, () -> turned.agrees(-1, 0));
        Check.refused("P12 commander 3 of 3", BOUNDS, () -> turned.agrees(3, 0));
        Check.refused("P12 order -1", ARGUMENT, () -> turned.agrees(0, -1));
        Check.refused("P12 order 2", ARGUMENT, () -> turned.agrees(0, 2));
        Check.refused("P12 both", BOUNDS, () -> turned.agrees(3, 2));
        Check.refused("P12 without generals", BOUNDS, () -> new LiarTents().agrees(0, 0));
    }

    private static void promise13Messengers() {
        int[][] due = {
            {0, 0, 0, 0}, {0, 0, 0, 0}, {1, 1, 1, 1}, {2, 4, 4, 4}, {3, 9, 15, 15},
            {4, 16, 40, 64}, {5, 25, 85, 205}, {6, 36, 156, 516}
        };
        LiarTents camp = new LiarTents();
        for (int generals = 0; generals <= 7; generals++) {
            for (int rounds = 0; rounds <= 3; rounds++) {
                Check.same("P13 " + generals + " generals, " + rounds, camp.messengers(rounds), due[generals][rounds]);
            }
            if (generals < 7) {
                camp.setKind(camp.come(), 3);
            }
        }
        Check.same("P13 the rounds stay", camp.count(1), 1);
        Check.refused("P13 rounds -1", ARGUMENT, () -> camp.messengers(-1));
        Check.refused("P13 rounds 4", ARGUMENT, () -> camp.messengers(4));
        Check.refused("P13 rounds 4 of a new camp", ARGUMENT, () -> new LiarTents().messengers(4));
    }

    private static void promise14Needs() {
        Check.same("P14 without generals", new LiarTents().needs(), 0);
        Check.same("P14 alone", Check.camp(4).needs(), 0);
        Check.same("P14 all loyal", Check.camp(0, 0, 0, 0).needs(), 0);
        Check.same("P14 liars alone", Check.camp(1, 2, 3, 4).needs(), 0);
        Check.same("P14 a liar that splits four", Check.camp(1, 0, 0, 0).needs(), 1);
        Check.same("P14 a liar that splits five", Check.camp(0, 2, 0, 0, 0).needs(), 1);
        Check.same("P14 by 1 with each attack, but not with each wait", Check.camp(2, 1, 0, 0).needs(), -1);
        Check.same("P14 by none", Check.camp(1, 0, 0).needs(), -1);
        Check.same("P14 two liars that split five", Check.camp(0, 2, 1, 1, 0).needs(), 2);
        Check.same("P14 two liars that split seven", Check.camp(1, 1, 0, 0, 0, 0, 0).needs(), 2);
        Check.same("P14 three liars that split seven", Check.camp(1, 1, 1, 0, 0, 0, 0).needs(), -1);
        promise14NeedsNoMoreThanLiars();
        LiarTents camp = Check.camp(1, 0, 0, 0);
        camp.setRounds(3);
        camp.hold(0, 1);
        String before = Check.everything(camp);
        Check.same("P14 whatever the rounds are", camp.needs(), 1);
        Check.same("P14 nothing is changed", Check.everything(camp), before);
        Check.same("P14 the rounds stay", camp.count(1), 3);
    }

    /** More than three times as many generals as liars agree by as many rounds as liars. */
    private static void promise14NeedsNoMoreThanLiars() {
        for (int code = 0; code < 78125; code++) {
            LiarTents camp = new LiarTents();
            int rest = code;
            for (int general = 0; general < 7; general++) {
                camp.setKind(camp.come(), rest % 5);
                rest /= 5;
            }
            int liars = camp.count(2);
            if (liars <= 2) {
                int needed = camp.needs();
                Check.same("P14 camp " + code + " of seven", needed >= 0 && needed <= liars, true);
            }
        }
    }

    private static void promise15Found() {
        int[] due = {0, 3, 6, 6, 6};
        for (int kind = 0; kind <= 4; kind++) {
            LiarTents camp = Check.camp(4, 0, 0, 0, kind, 0, 0);
            Check.same("P15 number 4 of kind " + kind, camp.found(4), due[kind]);
        }
        Check.same("P15 an odd liar of kind 1", Check.camp(0, 1, 0, 4).found(1), 1);
        Check.same("P15 alone", Check.camp(4).found(0), 0);
        Check.same("P15 liars could tell too", Check.camp(4, 4, 3).found(0), 2);
        LiarTents camp = Check.camp(0, 4);
        Check.refused("P15 general -1", BOUNDS, () -> camp.found(-1));
        Check.refused("P15 general 2 of 2", BOUNDS, () -> camp.found(2));
        Check.refused("P15 general 7", BOUNDS, () -> camp.found(7));
        Check.refused("P15 without generals", BOUNDS, () -> new LiarTents().found(0));
    }

    private static void promise16Mean() {
        LiarTents camp = Check.camp(0, 0, 0);
        Check.same("P16 no council", camp.mean(), 0.0);
        camp.hold(0, 0);
        Check.same("P16 nobody attacked", camp.mean(), 0.0);
        camp.hold(0, 1);
        Check.same("P16 3 of 2 councils", camp.mean(), 1.5);
        camp.hold(0, 0);
        Check.same("P16 3 of 3 councils", camp.mean(), 1.0);
        camp.come();
        camp.hold(3, 1);
        camp.hold(3, 0);
        camp.hold(3, 0);
        Check.same("P16 7 of 6 councils", camp.mean(), 7.0 / 6.0);
    }
}
