/** Promise 17: digest. */
public final class DigestTest {
    public static void main(String[] args) {
        promise17WithoutGenerals();
        promise17WithoutCouncil();
        promise17WithCouncil();
        promise17Wraps();
        Check.end("DigestTest");
    }

    private static void promise17WithoutGenerals() {
        Check.same("P17 a new camp", new LiarTents().digest(), Check.digestOf(0, 1, 0, 0, -1, -1, -1, -1, -1));
    }

    private static void promise17WithoutCouncil() {
        LiarTents camp = Check.camp(0, 0, 4);
        long due = Check.digestOf(
            3, 1, 1, 0, -1, -1, -1, -1, -1,
            0, 0, 0, 0, 0, 0, 0, 0, 4, 0, 0, 0,
            1, 0, 1, 0, 1, 1);
        Check.same("P17 no council", camp.digest(), due);
    }

    private static void promise17WithCouncil() {
        LiarTents camp = Check.camp(0, 0, 4);
        camp.hold(0, 1);
        camp.come();
        camp.setRounds(0);
        // General 3 came behind the council: told() tells of it, does() not.
        long due = Check.digestOf(
            4, 0, 1, 1, 4, 1, 1, 0, 1,
            0, 1, 1, 0, 0, 0, 0, 1, 4, 1, 0, 0, 0, 0, 0, 0,
            1, 0, 1,
            1, 1, 1, 1, 1, 1, 1, 1);
        Check.same("P17 a council", camp.digest(), due);
        Check.same("P17 once more", camp.digest(), due);
    }

    private static void promise17Wraps() {
        LiarTents camp = Check.camp(0, 0, 0, 0, 0, 0, 0);
        long[] numbers = new long[9 + 7 * 4 + 14];
        long[] counts = {7, 1, 0, 0, -1, -1, -1, -1, -1};
        System.arraycopy(counts, 0, numbers, 0, 9);
        java.util.Arrays.fill(numbers, 9 + 28, numbers.length, 1);
        Check.same("P17 wraps around", camp.digest(), Check.digestOf(numbers));
    }
}
