/** Generals in tents, some of them liars: they command, retell, take the majority and attack or wait. */
public final class LiarTents {
    private static final int MOST_GENERALS = 7;
    private static final int MOST_ROUNDS = 3;

    private static final int WAIT = 0;
    private static final int ATTACK = 1;

    private static final int LOYAL = 0;
    private static final int TURNS_FOR_ODD = 1;
    private static final int SPEAKS_BY_NUMBER = 2;
    private static final int SILENT = 3;
    private static final int TURNS_ALL = 4;
    private static final int MOST_KIND = 4;

    private static final int MOST_COUNTED = 8;
    private static final int MOST_TOLD = 3;

    private static final int NOBODY = -1;
    private static final int NONE = -1;

    private static final long DIGEST_START = 1429;
    private static final long DIGEST_FACTOR = 31;

    private int generals;
    private int rounds;
    private int councils;
    private int attacksInAll;

    private final int[] kinds;
    private final int[] attacked;
    private final int[] commanded;
    private final int[] differed;

    private int latestGenerals;
    private int latestCommander;
    private int latestOrder;
    private int latestMessengers;
    private final int[] latestDone;
    private final int[][] latestTook;

    // The rows of the agreement that is being worked out, one a depth of retelling: an agreement
    // and those that it opens are open at once, so that each depth needs rows of its own.
    private final int[][] heard;
    private final int[][] balance;
    private final int[][] taken;
    // What each general takes of each other one by the outermost agreement.
    private final int[][] tookOf;

    public LiarTents() {
        rounds = 1;
        kinds = new int[MOST_GENERALS];
        attacked = new int[MOST_GENERALS];
        commanded = new int[MOST_GENERALS];
        differed = new int[MOST_GENERALS];
        latestDone = new int[MOST_GENERALS];
        latestTook = new int[MOST_GENERALS][MOST_GENERALS];
        heard = new int[MOST_ROUNDS + 1][MOST_GENERALS];
        balance = new int[MOST_ROUNDS + 1][MOST_GENERALS];
        taken = new int[MOST_ROUNDS + 1][MOST_GENERALS];
        tookOf = new int[MOST_GENERALS][MOST_GENERALS];
    }

    // ---- the camp

    public int come() throws IllegalStateException {
        if (generals >= MOST_GENERALS) {
            throw new IllegalStateException("the camp is full");
        }
        int newcomer = generals;
        generals = newcomer + 1;
        return newcomer;
    }

    public int setKind(int general, int kind) throws IndexOutOfBoundsException {
        requireGeneral(general);
        if (kind < LOYAL || kind > MOST_KIND) {
            throw new IndexOutOfBoundsException("no such kind");
        }
        int before = kinds[general];
        kinds[general] = kind;
        return before;
    }

    public int setRounds(int rounds) throws IllegalArgumentException {
        requireRounds(rounds);
        int before = this.rounds;
        this.rounds = rounds;
        return before;
    }

    public int hold(int commander, int order) throws IndexOutOfBoundsException, IllegalArgumentException {
        requireGeneral(commander);
        requireOrder(order);
        workOut(commander, order, rounds);
        keepAsLatest(commander, order);
        return enterCouncil(commander, order);
    }

    // ---- what the latest council told

    public int does(int general) throws IndexOutOfBoundsException, IllegalStateException {
        requirePresent(general);
        requireCouncil();
        return latestDone[general];
    }

    public int took(int general, int other) throws IndexOutOfBoundsException, IllegalStateException {
        requirePresent(general);
        requirePresent(other);
        requireCouncil();
        if (general == latestCommander) {
            throw new IllegalStateException("the commander takes nothing");
        }
        return latestTook[general][other];
    }

    public int count(int what) throws IndexOutOfBoundsException {
        if (what < 0 || what > MOST_COUNTED) {
            throw new IndexOutOfBoundsException("no such count");
        }
        return counted(what);
    }

    public int told(int general, int what) throws IndexOutOfBoundsException {
        requireGeneral(general);
        if (what < 0 || what > MOST_TOLD) {
            throw new IndexOutOfBoundsException("no such thing to tell");
        }
        return toldOf(general, what);
    }

    // ---- what would be

    public int hears(int from, int to, int order) throws IndexOutOfBoundsException, IllegalArgumentException {
        requireGeneral(from);
        requireGeneral(to);
        if (from == to) {
            throw new IllegalArgumentException("a general tells nothing to itself");
        }
        requireOrder(order);
        return said(kinds[from], from, to, order);
    }

    public int would(int commander, int order, int general)
            throws IndexOutOfBoundsException, IllegalArgumentException {
        requireGeneral(commander);
        requireGeneral(general);
        requireOrder(order);
        workOut(commander, order, rounds);
        return orderDone(general, commander, order);
    }

    public boolean agrees(int commander, int order) throws IndexOutOfBoundsException, IllegalArgumentException {
        requireGeneral(commander);
        requireOrder(order);
        return loyalAgree(commander, order, rounds);
    }

    public int messengers(int rounds) throws IllegalArgumentException {
        requireRounds(rounds);
        return messengersAmong(generals, rounds);
    }

    public int needs() {
        for (int tried = 0; tried <= MOST_ROUNDS; tried++) {
            if (alwaysAgree(tried)) {
                return tried;
            }
        }
        return NONE;
    }

    public int found(int general) throws IndexOutOfBoundsException {
        requireGeneral(general);
        int finders = 0;
        for (int other = 0; other < generals; other++) {
            if (other != general && hearsLie(general, other)) {
                finders++;
            }
        }
        return finders;
    }

    public double mean() {
        return councils == 0 ? 0.0 : (double) attacksInAll / (double) councils;
    }

    public long digest() {
        long sum = DIGEST_START;
        for (int what = 0; what <= MOST_COUNTED; what++) {
            sum = mixed(sum, counted(what));
        }
        for (int general = 0; general < generals; general++) {
            for (int what = 0; what <= MOST_TOLD; what++) {
                sum = mixed(sum, toldOf(general, what));
            }
        }
        for (int general = 0; general < latestGenerals; general++) {
            sum = mixed(sum, latestDone[general]);
        }
        for (int commander = 0; commander < generals; commander++) {
            for (int order = WAIT; order <= ATTACK; order++) {
                sum = mixed(sum, loyalAgree(commander, order, rounds) ? 1 : 0);
            }
        }
        return sum;
    }

    // ---- what is asked of arguments

    private boolean isGeneral(int general) {
        return general >= 0 && general < generals;
    }

    private void requireGeneral(int general) {
        if (!isGeneral(general)) {
            throw new IndexOutOfBoundsException("no such general");
        }
    }

    /** Before the first council nobody came behind it: then only the general itself must be there. */
    private void requirePresent(int general) {
        requireGeneral(general);
        if (councils > 0 && general >= latestGenerals) {
            throw new IndexOutOfBoundsException("the general came behind the latest council");
        }
    }

    private void requireCouncil() {
        if (councils == 0) {
            throw new IllegalStateException("there was no council");
        }
    }

    private static void requireOrder(int order) {
        if (order != WAIT && order != ATTACK) {
            throw new IllegalArgumentException("no such order");
        }
    }

    private static void requireRounds(int rounds) {
        if (rounds < 0 || rounds > MOST_ROUNDS) {
            throw new IllegalArgumentException("no such rounds");
        }
    }

    // ---- telling and agreeing

    /** Attack is 1 and wait is 0, so that ATTACK - order is the order turned round. */
    private static int said(int kind, int from, int to, int order) {
        switch (kind) {
            case TURNS_FOR_ODD:
                return (to & 1) == 1 ? ATTACK - order : order;
            case SPEAKS_BY_NUMBER:
                return to < from ? WAIT : ATTACK;
            case SILENT:
                return WAIT;
            case TURNS_ALL:
                return ATTACK - order;
            default:
                return order;
        }
    }

    private boolean hearsLie(int from, int to) {
        int kind = kinds[from];
        return said(kind, from, to, ATTACK) != ATTACK || said(kind, from, to, WAIT) != WAIT;
    }

    /** Works out a council of all generals now: leaves what they take in taken[0] and in tookOf. */
    private void workOut(int commander, int order, int retellings) {
        for (int general = 0; general < generals; general++) {
            for (int other = 0; other < generals; other++) {
                tookOf[general][other] = NOBODY;
            }
        }
        int everyone = (1 << generals) - 1;
        agree(0, everyone, commander, order, retellings);
        for (int general = 0; general < generals; general++) {
            if (general != commander) {
                tookOf[general][commander] = heard[0][general];
            }
        }
    }

    /** Leaves in taken[depth] what the members take, all but the commander; a member is a bit. */
    private void agree(int depth, int members, int commander, int order, int retellings) {
        if (depth < 0 || depth > MOST_ROUNDS || !isGeneral(commander)) {
            return;
        }
        int others = members & ~(1 << commander);
        hearCommander(depth, others, commander, order);
        if (retellings > 0 && depth < MOST_ROUNDS) {
            for (int reteller = 0; reteller < generals; reteller++) {
                if (isAmong(others, reteller)) {
                    agree(depth + 1, others, reteller, heard[depth][reteller], retellings - 1);
                    weighRetold(depth, others, reteller);
                }
            }
        }
        takeMajority(depth, others);
    }

    private static boolean isAmong(int members, int general) {
        return (members >> general & 1) == 1;
    }

    private void hearCommander(int depth, int others, int commander, int order) {
        for (int general = 0; general < generals; general++) {
            if (isAmong(others, general)) {
                int word = said(kinds[commander], commander, general, order);
                heard[depth][general] = word;
                balance[depth][general] = weight(word);
            }
        }
    }

    private void weighRetold(int depth, int others, int reteller) {
        for (int general = 0; general < generals; general++) {
            if (general != reteller && isAmong(others, general)) {
                int word = taken[depth + 1][general];
                balance[depth][general] += weight(word);
                if (depth == 0) {
                    tookOf[general][reteller] = word;
                }
            }
        }
    }

    private static int weight(int order) {
        return order == ATTACK ? 1 : -1;
    }

    private void takeMajority(int depth, int others) {
        for (int general = 0; general < generals; general++) {
            if (isAmong(others, general)) {
                taken[depth][general] = balance[depth][general] > 0 ? ATTACK : WAIT;
            }
        }
    }

    private int orderDone(int general, int commander, int order) {
        return general == commander ? order : taken[0][general];
    }

    private boolean loyalAgree(int commander, int order, int retellings) {
        workOut(commander, order, retellings);
        int common = kinds[commander] == LOYAL ? order : NONE;
        for (int general = 0; general < generals; general++) {
            if (kinds[general] == LOYAL) {
                int done = orderDone(general, commander, order);
                if (common == NONE) {
                    common = done;
                } else if (done != common) {
                    return false;
                }
            }
        }
        return true;
    }

    private boolean alwaysAgree(int retellings) {
        for (int commander = 0; commander < generals; commander++) {
            for (int order = WAIT; order <= ATTACK; order++) {
                if (!loyalAgree(commander, order, retellings)) {
                    return false;
                }
            }
        }
        return true;
    }

    /** Each telling of a depth opens an agreement of one general less, so tellings multiply. */
    private static int messengersAmong(int members, int retellings) {
        int tellings = 1;
        int inAll = 0;
        for (int depth = 0; depth <= retellings && depth < members - 1; depth++) {
            tellings *= members - 1 - depth;
            inAll += tellings;
        }
        return inAll;
    }

    // ---- keeping and telling of councils

    private void keepAsLatest(int commander, int order) {
        latestGenerals = generals;
        latestCommander = commander;
        latestOrder = order;
        latestMessengers = messengersAmong(generals, rounds);
        for (int general = 0; general < generals; general++) {
            latestDone[general] = orderDone(general, commander, order);
            for (int other = 0; other < generals; other++) {
                latestTook[general][other] = tookOf[general][other];
            }
        }
    }

    /** Adds the latest council to what is told in all; answers how many attack by it. */
    private int enterCouncil(int commander, int order) {
        int attacks = 0;
        for (int general = 0; general < latestGenerals; general++) {
            int done = latestDone[general];
            if (done == ATTACK) {
                attacks++;
                attacked[general]++;
            }
            if (done != order) {
                differed[general]++;
            }
        }
        commanded[commander]++;
        councils++;
        attacksInAll += attacks;
        return attacks;
    }

    private int counted(int what) {
        switch (what) {
            case 0:
                return generals;
            case 1:
                return rounds;
            case 2:
                return liarsNow();
            case 3:
                return councils;
            default:
                return councils == 0 ? NONE : countedOfLatest(what);
        }
    }

    private int countedOfLatest(int what) {
        switch (what) {
            case 4:
                return latestMessengers;
            case 5:
                return loyalThatDid(ATTACK);
            case 6:
                return loyalThatDid(WAIT);
            case 7:
                return latestCommander;
            default:
                return latestOrder;
        }
    }

    private int liarsNow() {
        int liars = 0;
        for (int general = 0; general < generals; general++) {
            if (kinds[general] != LOYAL) {
                liars++;
            }
        }
        return liars;
    }

    private int loyalThatDid(int order) {
        int loyal = 0;
        for (int general = 0; general < latestGenerals; general++) {
            if (kinds[general] == LOYAL && latestDone[general] == order) {
                loyal++;
            }
        }
        return loyal;
    }

    private int toldOf(int general, int what) {
        switch (what) {
            case 0:
                return kinds[general];
            case 1:
                return attacked[general];
            case 2:
                return commanded[general];
            default:
                return differed[general];
        }
    }

    private static long mixed(long sum, long next) {
        return sum * DIGEST_FACTOR + next;
    }
}
