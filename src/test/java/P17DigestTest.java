import java.math.BigInteger;

/** Promise 17: digest. */
public final class P17DigestTest {
    public static void main(String[] args) {
        withoutGenerals();
        withoutACouncil();
        whatCountTells();
        whatToldTells();
        whatThoseThatWereThereDo();
        whetherTheyAgree();
        alone();
        itWrapsAround();
        nothingIsChanged();
        Check.end("P17DigestTest");
    }

    private static void withoutGenerals() {
        LiarTents camp = new LiarTents();
        Check.same("a new camp", camp.digest(), Check.digestOf(0, 1, 0, 0, -1, -1, -1, -1, -1));
        camp.setRounds(3);
        Check.same("by 3 rounds", camp.digest(), Check.digestOf(0, 3, 0, 0, -1, -1, -1, -1, -1));
    }

    private static void withoutACouncil() {
        LiarTents camp = Check.camp(0, 0, 4);
        long due = Check.digestOf(
            3, 1, 1, 0, -1, -1, -1, -1, -1,
            0, 0, 0, 0, 0, 0, 0, 0, 4, 0, 0, 0,
            1, 0, 1, 0, 1, 1);
        Check.same("nobody was in a council", camp.digest(), due);
    }

    private static void whatCountTells() {
        LiarTents camp = Check.campBy(2, 3);
        camp.hold(0, 1);
        camp.hold(0, 0);
        Check.same("a liar alone", camp.digest(), Check.digestOf(1, 2, 1, 2, 0, 0, 0, 0, 0, 3, 1, 2, 0, 0, 1, 1));
    }

    private static void whatToldTells() {
        LiarTents camp = Check.campBy(0, 4, 0);
        camp.hold(0, 1);
        camp.hold(0, 0);
        long due = Check.digestOf(
            2, 0, 1, 2, 1, 1, 0, 0, 0,
            4, 1, 2, 0, 0, 1, 0, 2,
            0, 1,
            1, 1, 1, 1);
        Check.same("a liar commanded", camp.digest(), due);
    }

    private static void whatThoseThatWereThereDo() {
        LiarTents camp = Check.camp(0, 0, 4);
        camp.hold(0, 1);
        camp.come();
        camp.setRounds(0);
        // General 3 came behind the council: told() tells of it, does() not.
        long due = Check.digestOf(
            4, 0, 1, 1, 4, 1, 1, 0, 1,
            0, 1, 1, 0, 0, 0, 0, 1, 4, 1, 0, 0, 0, 0, 0, 0,
            1, 0, 1,
            1, 1, 1, 1, 1, 1, 1, 1);
        Check.same("one came behind", camp.digest(), due);
    }

    private static void whetherTheyAgree() {
        // By 1 round a liar turns what is retold: loyal ones agree to wait, not to attack. Of the
        // liar's own order they hear the same, whatever it is.
        LiarTents camp = Check.camp(4, 0, 0);
        long due = Check.digestOf(
            3, 1, 1, 0, -1, -1, -1, -1, -1,
            4, 0, 0, 0, 0, 0, 0, 0, 0, 0, 0, 0,
            1, 1, 1, 0, 1, 0);
        Check.same("order 0 first", camp.digest(), due);
        camp.setRounds(0);
        due = Check.digestOf(
            3, 0, 1, 0, -1, -1, -1, -1, -1,
            4, 0, 0, 0, 0, 0, 0, 0, 0, 0, 0, 0,
            1, 1, 1, 1, 1, 1);
        Check.same("by the rounds there are", camp.digest(), due);
    }

    private static void alone() {
        LiarTents camp = Check.camp(0);
        camp.hold(0, 1);
        Check.same("alone", camp.digest(), Check.digestOf(1, 1, 0, 1, 0, 1, 0, 0, 1, 0, 1, 1, 0, 1, 1, 1));
    }

    private static void itWrapsAround() {
        int[] numbers = new int[9 + 7 * 4 + 14];
        int[] counts = {7, 1, 0, 0, -1, -1, -1, -1, -1};
        System.arraycopy(counts, 0, numbers, 0, 9);
        java.util.Arrays.fill(numbers, 9 + 28, numbers.length, 1);
        BigInteger whole = BigInteger.valueOf(1429);
        for (int number : numbers) {
            whole = whole.multiply(BigInteger.valueOf(31)).add(BigInteger.valueOf(number));
        }
        Check.same("it is beyond 64 bits", whole.bitLength() > 64, true);
        Check.same("the low 64 bits of it", Check.loyal(7).digest(), whole.longValue());
    }

    private static void nothingIsChanged() {
        LiarTents camp = Check.campBy(2, 0, 4, 1, 0);
        camp.hold(0, 1);
        String before = Check.everything(camp);
        long digest = camp.digest();
        Check.same("once more", camp.digest(), digest);
        Check.same("nothing is changed", Check.everything(camp), before);
    }
}
