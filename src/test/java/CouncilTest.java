/** Promises 5 to 9: hold, does, took, count, told. */
public final class CouncilTest {
    private static final Class<IndexOutOfBoundsException> BOUNDS = IndexOutOfBoundsException.class;
    private static final Class<IllegalArgumentException> ARGUMENT = IllegalArgumentException.class;
    private static final Class<IllegalStateException> STATE = IllegalStateException.class;

    public static void main(String[] args) {
        promise05HoldAlone();
        promise05HoldByTwo();
        promise05HoldEachKind();
        promise05HoldMoreRounds();
        promise05HoldTie();
        promise05HoldStays();
        promise05HoldRefuses();
        promise06Does();
        promise07Took();
        promise07TookRefuses();
        promise08Count();
        promise09Told();
        Check.end("CouncilTest");
    }

    private static String done(LiarTents camp) {
        StringBuilder orders = new StringBuilder();
        for (int general = 0; general < camp.count(0); general++) {
            orders.append(camp.does(general));
        }
        return orders.toString();
    }

    private static void held(String what, LiarTents camp, int rounds, int commander, int order, String due) {
        camp.setRounds(rounds);
        int attacks = camp.hold(commander, order);
        Check.same(what + ", " + rounds + " rounds", done(camp), due);
        Check.same(what + ", " + rounds + " rounds, attacks", attacks, due.replace("0", "").length());
    }

    private static void promise05HoldAlone() {
        for (int kind = 0; kind <= 4; kind++) {
            LiarTents camp = Check.camp(kind);
            for (int rounds = 0; rounds <= 3; rounds++) {
                held("P5 alone waits", camp, rounds, 0, 0, "0");
                held("P5 alone attacks", camp, rounds, 0, 1, "1");
                Check.same("P5 alone, no messengers", camp.count(4), 0);
            }
        }
    }

    private static void promise05HoldByTwo() {
        for (int rounds = 0; rounds <= 3; rounds++) {
            held("P5 two loyal", Check.camp(0, 0), rounds, 0, 1, "11");
            held("P5 two loyal", Check.camp(0, 0), rounds, 1, 0, "00");
            held("P5 a liar commands a loyal one", Check.camp(4, 0), rounds, 0, 1, "10");
            held("P5 a liar that waits", Check.camp(4, 0), rounds, 0, 0, "01");
            held("P5 a liar hears as others", Check.camp(0, 4), rounds, 0, 1, "11");
        }
    }

    private static void promise05HoldEachKind() {
        held("P5 loyal", Check.camp(0, 0, 0, 0), 0, 1, 1, "1111");
        held("P5 kind 1 turns for odd", Check.camp(0, 1, 0, 0), 0, 1, 1, "1110");
        held("P5 kind 1 turns for odd, wait", Check.camp(0, 1, 0, 0), 0, 1, 0, "0001");
        held("P5 kind 2 by number", Check.camp(0, 2, 0, 0), 0, 1, 1, "0111");
        held("P5 kind 2 by number, wait", Check.camp(0, 2, 0, 0), 0, 1, 0, "0011");
        held("P5 kind 3 says nothing", Check.camp(0, 3, 0, 0), 0, 1, 1, "0100");
        held("P5 kind 3 says nothing, wait", Check.camp(0, 3, 0, 0), 0, 1, 0, "0000");
        held("P5 kind 4 turns all", Check.camp(0, 4, 0, 0), 0, 1, 1, "0100");
        held("P5 kind 4 turns all, wait", Check.camp(0, 4, 0, 0), 0, 1, 0, "1011");
    }

    private static void promise05HoldMoreRounds() {
        // Generals 2 and 4 hear attack of the liar, 1 and 3 wait; what they retell makes a tie.
        held("P5 a liar splits", Check.camp(1, 0, 0, 0, 0), 0, 0, 1, "10101");
        held("P5 the split is retold", Check.camp(1, 0, 0, 0, 0), 1, 0, 1, "10000");
        // General 3 turns round what it retells: 1 and 2 hold two of three against it.
        held("P5 one liar of four", Check.camp(0, 0, 0, 4), 1, 0, 1, "1111");
        // General 1 takes attack, and wait of both liars.
        held("P5 two liars of four", Check.camp(0, 0, 4, 4), 1, 0, 1, "1011");
        // Of each other one a general takes wait: a liar turned what 1 retold, so that it ends in ties.
        held("P5 two liars of four", Check.camp(0, 0, 4, 4), 2, 0, 1, "1000");
        // More rounds than there are generals to retell.
        held("P5 two liars of four", Check.camp(0, 0, 4, 4), 3, 0, 1, "1000");
        held("P5 a silent one of five", Check.camp(3, 0, 0, 0, 0), 2, 1, 1, "11111");
        // By 3 rounds two are left with the silent one alone: its wait makes ties at every depth.
        held("P5 a silent one of five", Check.camp(3, 0, 0, 0, 0), 3, 1, 1, "11000");
        held("P5 two silent of seven", Check.camp(0, 3, 3, 0, 0, 0, 0), 2, 0, 1, "1111111");
        held("P5 the silent commander", Check.camp(0, 3, 3, 0, 0, 0, 0), 2, 1, 1, "0100000");
        held("P5 kind 2 retells", Check.camp(0, 0, 2), 1, 0, 1, "101");
        held("P5 kind 2 retells wait", Check.camp(0, 2, 0), 1, 0, 0, "000");
    }

    private static void promise05HoldTie() {
        held("P5 a tie is wait", Check.camp(0, 0, 4), 1, 0, 1, "101");
        held("P5 a tie is wait, of wait", Check.camp(0, 0, 4), 1, 0, 0, "000");
    }

    private static void promise05HoldStays() {
        LiarTents camp = Check.camp(0, 1, 0, 4, 0);
        camp.setRounds(2);
        camp.hold(1, 1);
        String before = latest(camp, 5);
        camp.setKind(1, 0);
        camp.setKind(3, 2);
        camp.setKind(0, 3);
        camp.setRounds(0);
        camp.come();
        camp.would(2, 0, 3);
        camp.agrees(0, 1);
        camp.needs();
        camp.digest();
        camp.messengers(3);
        Check.refused("P5 a hold that is refused", ARGUMENT, () -> camp.hold(2, 2));
        Check.same("P5 the latest council stays as it was", latest(camp, 5), before);
        camp.hold(2, 0);
        Check.same("P5 the next one is the latest", camp.count(7), 2);
        Check.same("P5 and has the newcomer", camp.does(5), 0);
    }

    private static String latest(LiarTents camp, int generals) {
        StringBuilder told = new StringBuilder();
        told.append(camp.count(4)).append(' ').append(camp.count(7)).append(' ').append(camp.count(8));
        for (int a = 0; a < generals; a++) {
            int first = a;
            told.append(' ').append(camp.does(a));
            for (int b = 0; b < generals; b++) {
                int second = b;
                told.append(' ').append(Check.outcome(() -> camp.took(first, second)));
            }
            told.append(' ').append(camp.told(a, 1)).append(camp.told(a, 2)).append(camp.told(a, 3));
        }
        return told.toString();
    }

    private static void promise05HoldRefuses() {
        LiarTents camp = Check.camp(0, 1, 0);
        camp.hold(1, 1);
        String before = Check.everything(camp);
        Check.refused("P5 commander -1", BOUNDS, () -> camp.hold(-1, 0));
        Check.refused("P5 commander 3 of 3", BOUNDS, () -> camp.hold(3, 0));
        Check.refused("P5 commander 7", BOUNDS, () -> camp.hold(7, 0));
        Check.refused("P5 order -1", ARGUMENT, () -> camp.hold(0, -1));
        Check.refused("P5 order 2", ARGUMENT, () -> camp.hold(0, 2));
        Check.refused("P5 both: the general first", BOUNDS, () -> camp.hold(3, 2));
        Check.same("P5 a refused hold changes nothing", Check.everything(camp), before);
        Check.refused("P5 without generals", BOUNDS, () -> new LiarTents().hold(0, 0));
    }

    private static void promise06Does() {
        LiarTents camp = Check.camp(0, 0);
        Check.refused("P6 no council", STATE, () -> camp.does(1));
        Check.refused("P6 no such general, no council", BOUNDS, () -> camp.does(2));
        Check.refused("P6 general -1, no council", BOUNDS, () -> camp.does(-1));
        camp.hold(0, 1);
        Check.same("P6 the commander", camp.does(0), 1);
        Check.same("P6 the other", camp.does(1), 1);
        camp.come();
        Check.refused("P6 came behind it", BOUNDS, () -> camp.does(2));
        Check.refused("P6 no such general", BOUNDS, () -> camp.does(3));
        Check.refused("P6 general 7", BOUNDS, () -> camp.does(7));
        Check.refused("P6 general -1", BOUNDS, () -> camp.does(-1));
        camp.setKind(1, 4);
        camp.hold(1, 0);
        Check.same("P6 a liar does its order", camp.does(1), 0);
        Check.same("P6 of a liar heard attack, and retold", camp.does(0), 1);
        Check.same("P6 the newcomer is there now", camp.does(2), 1);
    }

    private static void promise07Took() {
        LiarTents camp = Check.camp(0, 0, 4, 0);
        camp.hold(0, 1);
        Check.same("P7 of the commander", camp.took(1, 0), 1);
        Check.same("P7 of itself", camp.took(1, 1), -1);
        Check.same("P7 of the liar", camp.took(1, 2), 0);
        Check.same("P7 of a loyal one", camp.took(1, 3), 1);
        Check.same("P7 the liar of a loyal one", camp.took(2, 1), 1);
        camp.hold(2, 1);
        Check.same("P7 what it heard of a liar that commands", camp.took(0, 2), 0);
        Check.same("P7 what others retell of it", camp.took(0, 3), 0);
        camp.setRounds(0);
        camp.hold(0, 1);
        Check.same("P7 0 rounds, of the commander", camp.took(3, 0), 1);
        Check.same("P7 0 rounds, of others", camp.took(3, 1), -1);
        Check.same("P7 0 rounds, of itself", camp.took(3, 3), -1);
        camp.hold(3, 0);
        Check.same("P7 0 rounds behind others, 0 of 1", camp.took(0, 1), -1);
        Check.same("P7 0 rounds behind others, 1 of 0", camp.took(1, 0), -1);
        // By 2 rounds general 1 takes of 3 by the agreement of 1 to 4 that 3 commands: it hears
        // attack of 3, but wait of 2, which turned it, and of 4, which said nothing.
        LiarTents five = Check.camp(0, 0, 4, 0, 3);
        five.setRounds(2);
        five.hold(0, 1);
        Check.same("P7 2 rounds, of the silent one", five.took(1, 4), 0);
        Check.same("P7 2 rounds, of the liar", five.took(1, 2), 0);
        Check.same("P7 2 rounds, of a loyal one", five.took(1, 3), 0);
        Check.same("P7 2 rounds, the end", five.does(1), 0);
        five.setRounds(1);
        five.hold(0, 1);
        Check.same("P7 1 round, of a loyal one", five.took(1, 3), 1);
    }

    private static void promise07TookRefuses() {
        LiarTents camp = Check.camp(0, 0);
        Check.refused("P7 no council", STATE, () -> camp.took(0, 1));
        Check.refused("P7 no council, nobody commanded", STATE, () -> camp.took(1, 0));
        Check.refused("P7 no council, the same", STATE, () -> camp.took(0, 0));
        Check.refused("P7 no council, no first general", BOUNDS, () -> camp.took(2, 0));
        Check.refused("P7 no council, no second general", BOUNDS, () -> camp.took(0, 2));
        camp.hold(0, 1);
        camp.come();
        Check.refused("P7 the first commanded", STATE, () -> camp.took(0, 1));
        Check.refused("P7 the first commanded, the same", STATE, () -> camp.took(0, 0));
        Check.refused("P7 the first commanded, the second came behind", BOUNDS, () -> camp.took(0, 2));
        Check.refused("P7 the first commanded, no second", BOUNDS, () -> camp.took(0, 3));
        Check.refused("P7 the first came behind", BOUNDS, () -> camp.took(2, 0));
        Check.refused("P7 the second came behind", BOUNDS, () -> camp.took(1, 2));
        Check.refused("P7 first -1", BOUNDS, () -> camp.took(-1, 0));
        Check.refused("P7 second -1", BOUNDS, () -> camp.took(1, -1));
        Check.refused("P7 second 7", BOUNDS, () -> camp.took(1, 7));
        Check.same("P7 two by one round", camp.took(1, 0), 1);
    }

    private static void counts(String what, LiarTents camp, int... due) {
        for (int at = 0; at < due.length; at++) {
            Check.same("P8 " + what + ", count(" + at + ")", camp.count(at), due[at]);
        }
    }

    private static void promise08Count() {
        LiarTents camp = Check.camp(0, 4, 0, 0);
        counts("no council yet", camp, 4, 1, 1, 0, -1, -1, -1, -1, -1);
        camp.setRounds(0);
        camp.hold(1, 1);
        // The liar attacks, the three loyal ones wait.
        counts("a liar commanded", camp, 4, 0, 1, 1, 3, 0, 3, 1, 1);
        camp.setKind(1, 0);
        camp.setKind(2, 1);
        camp.setRounds(2);
        camp.come();
        // Loyal is who is so now, but only of those that were there.
        counts("changed behind it", camp, 5, 2, 1, 1, 3, 1, 2, 1, 1);
        camp.hold(4, 0);
        counts("the next one", camp, 5, 2, 1, 2, 4 + 4 * (3 + 3 * 2), 0, 4, 4, 0);
        Check.refused("P8 what -1", BOUNDS, () -> camp.count(-1));
        Check.refused("P8 what 9", BOUNDS, () -> camp.count(9));
        Check.refused("P8 what least", BOUNDS, () -> camp.count(Integer.MIN_VALUE));
        Check.refused("P8 what most", BOUNDS, () -> camp.count(Integer.MAX_VALUE));
        Check.refused("P8 what 9 of a new camp", BOUNDS, () -> new LiarTents().count(9));
        LiarTents liars = Check.camp(1, 2, 3, 4, 1, 2, 3);
        liars.setRounds(3);
        liars.hold(6, 1);
        counts("seven liars", liars, 7, 3, 7, 1, 516, 0, 0, 6, 1);
    }

    private static void tells(String what, LiarTents camp, int general, int... due) {
        for (int at = 0; at < due.length; at++) {
            Check.same("P9 " + what + ", told(" + general + ", " + at + ")", camp.told(general, at), due[at]);
        }
    }

    private static void promise09Told() {
        LiarTents camp = Check.camp(0, 3, 0);
        camp.setRounds(0);
        tells("no council yet", camp, 1, 3, 0, 0, 0);
        camp.hold(1, 1);
        tells("one council", camp, 0, 0, 0, 0, 1);
        tells("one council", camp, 1, 3, 1, 1, 0);
        camp.hold(1, 0);
        camp.hold(0, 1);
        tells("three councils", camp, 0, 0, 1, 1, 1);
        tells("three councils", camp, 1, 3, 2, 2, 0);
        tells("three councils", camp, 2, 0, 1, 0, 1);
        camp.setKind(1, 4);
        camp.come();
        camp.hold(1, 0);
        tells("commanded to wait, attacked", camp, 2, 0, 2, 0, 2);
        tells("the newcomer", camp, 3, 0, 1, 0, 1);
        tells("the liar", camp, 1, 4, 2, 3, 0);
        Check.refused("P9 general -1", BOUNDS, () -> camp.told(-1, 0));
        Check.refused("P9 general 4 of 4", BOUNDS, () -> camp.told(4, 0));
        Check.refused("P9 general 7", BOUNDS, () -> camp.told(7, 0));
        Check.refused("P9 what -1", BOUNDS, () -> camp.told(0, -1));
        Check.refused("P9 what 4", BOUNDS, () -> camp.told(0, 4));
        Check.refused("P9 both", BOUNDS, () -> camp.told(9, 9));
    }
}
