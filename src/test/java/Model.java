import java.util.ArrayList;
import java.util.List;

/** The document said again, as plainly and as wastefully as can be: every answer is worked out anew. */
final class Model {
    /** A council with all that was so when it was held. */
    private static final class Council {
        final List<Integer> kinds;
        final int rounds;
        final int commander;
        final int order;

        Council(List<Integer> kinds, int rounds, int commander, int order) {
            this.kinds = new ArrayList<>(kinds);
            this.rounds = rounds;
            this.commander = commander;
            this.order = order;
        }

        List<Integer> all() {
            List<Integer> all = new ArrayList<>();
            for (int general = 0; general < kinds.size(); general++) {
                all.add(general);
            }
            return all;
        }

        int done(int general) {
            return general == commander ? order : takes(kinds, all(), commander, order, rounds, general);
        }

        int tookOf(int general, int other) {
            if (other == general) {
                return -1;
            }
            int heardOfCommander = says(kinds, commander, general, order);
            if (other == commander) {
                return heardOfCommander;
            }
            if (rounds == 0) {
                return -1;
            }
            int heardByOther = says(kinds, commander, other, order);
            return takes(kinds, without(all(), commander), other, heardByOther, rounds - 1, general);
        }

        int attacks() {
            int attacks = 0;
            for (int general : all()) {
                attacks += done(general);
            }
            return attacks;
        }
    }

    private final List<Integer> kinds = new ArrayList<>();
    private final List<Council> councils = new ArrayList<>();
    private int rounds = 1;

    private static int says(List<Integer> kinds, int from, int to, int order) {
        int kind = kinds.get(from);
        boolean turns = kind == 4 || kind == 1 && to % 2 == 1;
        int word = turns ? 1 - order : order;
        return kind == 3 ? 0 : kind == 2 ? (to > from ? 1 : 0) : word;
    }

    private static List<Integer> without(List<Integer> members, int one) {
        List<Integer> rest = new ArrayList<>(members);
        rest.remove((Integer) one);
        return rest;
    }

    private static int takes(List<Integer> kinds, List<Integer> members, int commander, int order, int r, int who) {
        int heard = says(kinds, commander, who, order);
        if (r == 0) {
            return heard;
        }
        int attack = heard;
        int words = 1;
        List<Integer> others = without(members, commander);
        for (int other : without(others, who)) {
            int otherHeard = says(kinds, commander, other, order);
            attack += takes(kinds, others, other, otherHeard, r - 1, who);
            words++;
        }
        return 2 * attack > words ? 1 : 0;
    }

    private static int tellings(int members, int r) {
        int run = 0;
        for (int other = 1; other < members; other++) {
            run += 1 + (r == 0 ? 0 : tellings(members - 1, r - 1));
        }
        return run;
    }

    private void bounds(boolean holds) {
        if (!holds) {
            throw new IndexOutOfBoundsException();
        }
    }

    private void argument(boolean holds) {
        if (!holds) {
            throw new IllegalArgumentException();
        }
    }

    private void state(boolean holds) {
        if (!holds) {
            throw new IllegalStateException();
        }
    }

    private boolean there(int general) {
        return general >= 0 && general < kinds.size();
    }

    private boolean thereThen(int general) {
        return there(general) && (councils.isEmpty() || general < latest().kinds.size());
    }

    private Council latest() {
        return councils.get(councils.size() - 1);
    }

    int come() {
        state(kinds.size() < 7);
        kinds.add(0);
        return kinds.size() - 1;
    }

    int setKind(int general, int kind) {
        bounds(there(general) && kind >= 0 && kind <= 4);
        return kinds.set(general, kind);
    }

    int setRounds(int now) {
        argument(now >= 0 && now <= 3);
        int before = rounds;
        rounds = now;
        return before;
    }

    int hold(int commander, int order) {
        bounds(there(commander));
        argument(order == 0 || order == 1);
        councils.add(new Council(kinds, rounds, commander, order));
        return latest().attacks();
    }

    int does(int general) {
        bounds(thereThen(general));
        state(!councils.isEmpty());
        return latest().done(general);
    }

    int took(int general, int other) {
        bounds(thereThen(general) && thereThen(other));
        state(!councils.isEmpty() && general != latest().commander);
        return latest().tookOf(general, other);
    }

    int count(int what) {
        bounds(what >= 0 && what <= 8);
        if (what <= 3) {
            int liars = 0;
            for (int kind : kinds) {
                liars += kind == 0 ? 0 : 1;
            }
            return new int[] {kinds.size(), rounds, liars, councils.size()}[what];
        }
        if (councils.isEmpty()) {
            return -1;
        }
        int attack = 0;
        int wait = 0;
        for (int general : latest().all()) {
            int loyal = kinds.get(general) == 0 ? 1 : 0;
            int done = latest().done(general);
            attack += loyal * done;
            wait += loyal * (1 - done);
        }
        int run = tellings(latest().kinds.size(), latest().rounds);
        return new int[] {run, attack, wait, latest().commander, latest().order}[what - 4];
    }

    int told(int general, int what) {
        bounds(there(general) && what >= 0 && what <= 3);
        int[] told = {kinds.get(general), 0, 0, 0};
        for (Council council : councils) {
            if (general < council.kinds.size()) {
                told[1] += council.done(general);
                told[2] += council.commander == general ? 1 : 0;
                told[3] += council.done(general) == council.order ? 0 : 1;
            }
        }
        return told[what];
    }

    int hears(int from, int to, int order) {
        bounds(there(from) && there(to));
        argument(from != to && (order == 0 || order == 1));
        return says(kinds, from, to, order);
    }

    int would(int commander, int order, int general) {
        bounds(there(commander) && there(general));
        argument(order == 0 || order == 1);
        return new Council(kinds, rounds, commander, order).done(general);
    }

    boolean agrees(int commander, int order) {
        bounds(there(commander));
        argument(order == 0 || order == 1);
        return agreesBy(rounds, commander, order);
    }

    private boolean agreesBy(int r, int commander, int order) {
        Council council = new Council(kinds, r, commander, order);
        int attack = 0;
        int wait = 0;
        for (int general : council.all()) {
            if (kinds.get(general) == 0) {
                attack += council.done(general);
                wait += 1 - council.done(general);
            }
        }
        boolean same = attack == 0 || wait == 0;
        boolean bound = kinds.get(commander) == 0;
        return same && (!bound || (order == 1 ? wait : attack) == 0);
    }

    int messengers(int r) {
        argument(r >= 0 && r <= 3);
        return tellings(kinds.size(), r);
    }

    int needs() {
        int least = -1;
        for (int r = 3; r >= 0; r--) {
            boolean always = true;
            for (int commander = 0; commander < kinds.size(); commander++) {
                always = always && agreesBy(r, commander, 0) && agreesBy(r, commander, 1);
            }
            least = always ? r : least;
        }
        return least;
    }

    int found(int general) {
        bounds(there(general));
        int finders = 0;
        for (int other = 0; other < kinds.size(); other++) {
            boolean honest = says(kinds, general, other, 0) == 0 && says(kinds, general, other, 1) == 1;
            finders += other == general || honest ? 0 : 1;
        }
        return finders;
    }

    double mean() {
        int attacks = 0;
        for (Council council : councils) {
            attacks += council.attacks();
        }
        return councils.isEmpty() ? 0.0 : (double) attacks / councils.size();
    }

    long digest() {
        long d = 1429;
        for (int what = 0; what <= 8; what++) {
            d = d * 31 + count(what);
        }
        for (int general = 0; general < kinds.size(); general++) {
            for (int what = 0; what <= 3; what++) {
                d = d * 31 + told(general, what);
            }
        }
        if (!councils.isEmpty()) {
            for (int general : latest().all()) {
                d = d * 31 + latest().done(general);
            }
        }
        for (int commander = 0; commander < kinds.size(); commander++) {
            for (int order = 0; order <= 1; order++) {
                d = d * 31 + (agreesBy(rounds, commander, order) ? 1 : 0);
            }
        }
        return d;
    }
}
