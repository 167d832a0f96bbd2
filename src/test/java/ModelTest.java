import java.util.Arrays;

/** All promises: long runs of calls, with arguments in and just outside their bounds, beside the model. */
public final class ModelTest {
    private static final int RUNS = 120;
    private static final int CALLS = 512;
    private static final int[] WEIGHTED = {
        0, 1, 1, 1, 2, 2, 3, 3, 3, 4, 5, 5, 6, 6, 7, 8, 9, 9, 10, 10, 11, 12, 13, 14, 15
    };

    // A row of numbers of our own, the same in every run of the test.
    private static long row = 20261119;

    public static void main(String[] args) {
        for (int code = 0; code < 625; code++) {
            int[] kinds = {code % 5, code / 5 % 5, code / 25 % 5, code / 125};
            for (int rounds = 0; rounds <= 3; rounds++) {
                everyCouncilOfFour(rounds, kinds);
            }
        }
        for (int run = 0; run < RUNS; run++) {
            longRun(run);
        }
        Check.end("ModelTest");
    }

    private static int next(int bound) {
        row = row * 6364136223846793005L + 1442695040888963407L;
        return (int) ((row >>> 33) % bound);
    }

    /** A number from -1 to most + 1, seldom a far one, and mostly one of the bounds. */
    private static int near(int most) {
        int roll = next(40);
        if (roll == 0) {
            return next(2) == 0 ? Integer.MIN_VALUE : Integer.MAX_VALUE;
        }
        if (roll <= 3) {
            return roll == 1 ? -1 : most + 1;
        }
        return most < 0 ? 0 : next(most + 1);
    }

    private static void longRun(int run) {
        LiarTents camp = new LiarTents();
        Model model = new Model();
        for (int general = next(8); general > 0; general--) {
            camp.come();
            model.come();
        }
        for (int call = model.count(0) + 1; call <= CALLS; call++) {
            int method = WEIGHTED[next(WEIGHTED.length)];
            int newest = model.count(0) - 1;
            int second = method == 1 ? near(4) : method == 7 ? near(3)
                : method == 5 || method == 8 ? near(newest) : near(1);
            int first = method == 2 || method == 11 ? near(3) : method == 6 ? near(8) : near(newest);
            int third = method == 9 ? near(newest) : near(1);
            String got = Check.outcome(() -> ofCamp(camp, method, first, second, third));
            String due = Check.outcome(() -> ofModel(model, method, first, second, third));
            Check.same("run " + run + ", call " + call + ", method " + method
                + " (" + first + ", " + second + ", " + third + ")", got, due);
        }
    }

    /** The councils of a camp of four, with each commander and order. */
    private static void everyCouncilOfFour(int rounds, int... kinds) {
        String name = "camp " + Arrays.toString(kinds) + " by " + rounds;
        LiarTents camp = Check.campBy(rounds, kinds);
        Model model = new Model();
        for (int kind : kinds) {
            model.setKind(model.come(), kind);
        }
        model.setRounds(rounds);
        Check.same(name + ", needs", camp.needs(), model.needs());
        for (int plan = 0; plan < 8; plan++) {
            int attacks = camp.hold(plan / 2, plan % 2);
            Check.same(name + ", plan " + plan, attacks, model.hold(plan / 2, plan % 2));
            Check.same(name + ", plan " + plan + ", took", allTook(camp), allTook(model));
        }
        Check.same(name + ", digest", camp.digest(), model.digest());
    }

    private static String allTook(LiarTents camp) {
        StringBuilder all = new StringBuilder();
        for (int pair = 0; pair < 16; pair++) {
            int a = pair / 4;
            int b = pair % 4;
            all.append(Check.outcome(() -> camp.took(a, b))).append(' ');
        }
        return all.toString();
    }

    private static String allTook(Model model) {
        StringBuilder all = new StringBuilder();
        for (int pair = 0; pair < 16; pair++) {
            int a = pair / 4;
            int b = pair % 4;
            all.append(Check.outcome(() -> model.took(a, b))).append(' ');
        }
        return all.toString();
    }

    private static Object ofCamp(LiarTents camp, int method, int a, int b, int c) {
        switch (method) {
            case 0: return camp.come();
            case 1: return camp.setKind(a, b);
            case 2: return camp.setRounds(a);
            case 3: return camp.hold(a, b);
            case 4: return camp.does(a);
            case 5: return camp.took(a, b);
            case 6: return camp.count(a);
            case 7: return camp.told(a, b);
            case 8: return camp.hears(a, b, c);
            case 9: return camp.would(a, b, c);
            case 10: return camp.agrees(a, b);
            case 11: return camp.messengers(a);
            case 12: return camp.needs();
            case 13: return camp.found(a);
            case 14: return camp.mean();
            default: return camp.digest();
        }
    }

    private static Object ofModel(Model model, int method, int a, int b, int c) {
        switch (method) {
            case 0: return model.come();
            case 1: return model.setKind(a, b);
            case 2: return model.setRounds(a);
            case 3: return model.hold(a, b);
            case 4: return model.does(a);
            case 5: return model.took(a, b);
            case 6: return model.count(a);
            case 7: return model.told(a, b);
            case 8: return model.hears(a, b, c);
            case 9: return model.would(a, b, c);
            case 10: return model.agrees(a, b);
            case 11: return model.messengers(a);
            case 12: return model.needs();
            case 13: return model.found(a);
            case 14: return model.mean();
            default: return model.digest();
        }
    }
}
