/** Promises 1 to 4: a new object, come, setKind, setRounds. */
public final class CampTest {
    private static final Class<IndexOutOfBoundsException> BOUNDS = IndexOutOfBoundsException.class;
    private static final Class<IllegalArgumentException> ARGUMENT = IllegalArgumentException.class;
    private static final Class<IllegalStateException> STATE = IllegalStateException.class;

    public static void main(String[] args) {
        promise01NewObject();
        promise02Come();
        promise03SetKind();
        promise04SetRounds();
        Check.end("CampTest");
    }

    private static void promise01NewObject() {
        LiarTents camp = new LiarTents();
        int[] counts = {0, 1, 0, 0, -1, -1, -1, -1, -1};
        for (int what = 0; what < counts.length; what++) {
            Check.same("P1 count(" + what + ") of a new camp", camp.count(what), counts[what]);
        }
        Check.refused("P1 a new camp has no general 0", BOUNDS, () -> camp.told(0, 0));
        Check.same("P1 mean of a new camp", camp.mean(), 0.0);
        Check.same("P1 needs of a new camp", camp.needs(), 0);
        new LiarTents().come();
        Check.same("P1 objects share nothing", camp.count(0), 0);
    }

    private static void promise02Come() {
        LiarTents camp = new LiarTents();
        for (int number = 0; number < 7; number++) {
            Check.same("P2 number", camp.come(), number);
            Check.same("P2 a newcomer is loyal", camp.told(number, 0), 0);
            Check.same("P2 generals", camp.count(0), number + 1);
        }
        String before = Check.everything(camp);
        Check.refused("P2 come with 7", STATE, camp::come);
        Check.refused("P2 come with 7 again", STATE, camp::come);
        Check.same("P2 a refused come changes nothing", Check.everything(camp), before);
        Check.same("P2 seven are there", camp.count(0), 7);
    }

    private static void promise03SetKind() {
        LiarTents camp = Check.camp(0, 0, 0);
        int before = 0;
        for (int kind : new int[] {1, 2, 3, 4, 4, 0, 0}) {
            Check.same("P3 the kind before", camp.setKind(1, kind), before);
            Check.same("P3 the kind now", camp.told(1, 0), kind);
            Check.same("P3 liars", camp.count(2), kind == 0 ? 0 : 1);
            before = kind;
        }
        Check.same("P3 others keep theirs", camp.told(0, 0) + camp.told(2, 0), 0);
        camp.setKind(1, 2);
        String state = Check.everything(camp);
        Check.refused("P3 general -1", BOUNDS, () -> camp.setKind(-1, 0));
        Check.refused("P3 general 3 of 3", BOUNDS, () -> camp.setKind(3, 0));
        Check.refused("P3 general 7", BOUNDS, () -> camp.setKind(7, 0));
        Check.refused("P3 general least", BOUNDS, () -> camp.setKind(Integer.MIN_VALUE, 0));
        Check.refused("P3 general most", BOUNDS, () -> camp.setKind(Integer.MAX_VALUE, 0));
        Check.refused("P3 kind -1", BOUNDS, () -> camp.setKind(1, -1));
        Check.refused("P3 kind 5", BOUNDS, () -> camp.setKind(1, 5));
        Check.refused("P3 both", BOUNDS, () -> camp.setKind(9, 9));
        Check.same("P3 a refused setKind changes nothing", Check.everything(camp), state);
        Check.refused("P3 without generals", BOUNDS, () -> new LiarTents().setKind(0, 0));
    }

    private static void promise04SetRounds() {
        LiarTents camp = new LiarTents();
        int before = 1;
        for (int rounds : new int[] {0, 3, 2, 1, 1, 3, 0}) {
            Check.same("P4 the rounds before", camp.setRounds(rounds), before);
            Check.same("P4 the rounds now", camp.count(1), rounds);
            before = rounds;
        }
        camp.setRounds(2);
        Check.refused("P4 rounds -1", ARGUMENT, () -> camp.setRounds(-1));
        Check.refused("P4 rounds 4", ARGUMENT, () -> camp.setRounds(4));
        Check.refused("P4 rounds least", ARGUMENT, () -> camp.setRounds(Integer.MIN_VALUE));
        Check.refused("P4 rounds most", ARGUMENT, () -> camp.setRounds(Integer.MAX_VALUE));
        Check.same("P4 a refused setRounds changes nothing", camp.count(1), 2);
    }
}
