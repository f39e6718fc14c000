import java.math.BigInteger;

/** Promise 13. */
public final class StringTest {
    public static void main(String[] args) {
        cutOffAndNext();
        whole();
        nextToWhole();
        fractions();
        everySmallStair();
        noTreads();
        smallestAndLargest();
        sameForEveryKind();
        noSuchEnd();
        notPlanned();
        Check.end("StringTest");
    }

    private static void string(long cutOff, long notBelow, long total, int rises, long going) {
        StairPlans plans = Check.planned(total, rises, 0, going, 5);
        String stair = " of " + rises + " rises, " + total + " up, goings of " + going;
        Check.due(cutOff, "string(0)" + stair, () -> plans.string(0));
        Check.due(notBelow, "string(1)" + stair, () -> plans.string(1));
    }

    private static void cutOffAndNext() {
        Check.sentence("the root of the sum of both squares, cut off, and the next whole number");
        string(466, 467, 270, 15, 28);
        // 12 along and 12 up, 1 along and 1 / 2 up, 12 along and 16 / 5 up.
        string(16, 17, 15, 5, 3);
        string(1, 2, 1, 2, 1);
        string(12, 13, 4, 5, 3);
    }

    private static void whole() {
        Check.sentence("the next whole number, if it is not whole");
        // 16 along and 12 up, 3 along and 4 up, 20 along and 21 up, 9999 along and 200 up.
        string(20, 20, 15, 5, 4);
        string(5, 5, 8, 2, 3);
        string(29, 29, 42, 2, 20);
        string(10001, 10001, 400, 2, 9999);
        // 59 times 4 along and 3 up, 59 times 9999 along and 200 up.
        string(295, 295, 180, 60, 4);
        string(590059, 590059, 12000, 60, 9999);
    }

    private static void nextToWhole() {
        Check.sentence("cut off, and the next whole number (the square next to that of a whole number)");
        // Their sums are 8 * 8 + 1, 9 * 9 - 1 and 3 * 3 - 1.
        string(8, 9, 14, 2, 4);
        string(8, 9, 16, 2, 4);
        string(2, 3, 4, 2, 2);
        // 10000 along and 1 up, and the other way round.
        string(10000, 10001, 2, 2, 10000);
        string(50000, 50001, 100000, 2, 1);
    }

    private static void fractions() {
        Check.sentence("their GOINGS along, their RISES up (RISES that are no whole numbers)");
        // 12 along and 7 / 2 up make 25 / 2, a fraction but no root.
        string(12, 13, 7, 2, 12);
        // 59 along and 59 / 60 up are just above 59; 2 along and 2 / 3 up just above 2.
        string(59, 60, 1, 60, 1);
        string(2, 3, 1, 3, 1);
        // 2 * (4 along and 9 / 3 up) make 10.
        string(10, 10, 9, 3, 4);
        string(10, 11, 10, 3, 4);
        string(9, 10, 8, 3, 4);
    }

    private static void everySmallStair() {
        Check.sentence("the root of the sum of both squares (against another way to find it)");
        for (int n = 1; n <= 6; n++) {
            for (long going = 1; going <= 25; going++) {
                for (long total = 1; total <= 60; total++) {
                    compare(total, n, going);
                }
            }
        }
        for (long total : new long[] {1, 59, 60, 61, 270, 99999, 100000}) {
            for (long going : new long[] {1, 2, 4999, 9999, 10000}) {
                for (int n = 1; n <= 60; n++) {
                    compare(total, n, going);
                }
            }
        }
    }

    private static void compare(long total, int n, long going) {
        BigInteger along = BigInteger.valueOf((n - 1) * going * n);
        BigInteger up = BigInteger.valueOf((n - 1) * total);
        BigInteger[] square = along.pow(2).add(up.pow(2)).divideAndRemainder(BigInteger.valueOf((long) n * n));
        BigInteger[] root = square[0].sqrtAndRemainder();
        long cutOff = root[0].longValueExact();
        boolean whole = square[1].signum() == 0 && root[1].signum() == 0;
        string(cutOff, whole ? cutOff : cutOff + 1, total, n, going);
    }

    private static void noTreads() {
        Check.sentence("THE STRING of a straight run of all treads (of none: 0)");
        string(0, 0, 100000, 1, 10000);
        string(0, 0, 1, 1, 1);
    }

    private static void smallestAndLargest() {
        Check.sentence("THE STRING (the shortest and the longest)");
        string(1, 2, 1, 2, 1);
        string(590000, 590001, 270, 60, 10000);
        string(598138, 598139, 100000, 60, 10000);
        string(98333, 98334, 100000, 60, 1);
    }

    private static void sameForEveryKind() {
        Check.sentence("of a straight run of all treads (whatever the kind)");
        for (int kind = 0; kind <= 2; kind++) {
            StairPlans plans = Check.planned(270, 15, kind, 28, 90);
            Check.due(466, "string(0) of kind " + kind, () -> plans.string(0));
            Check.due(467, "string(1) of kind " + kind, () -> plans.string(1));
        }
    }

    private static void noSuchEnd() {
        Check.sentence("cut off (end = 0) or not below it (1); IndexOutOfBoundsException");
        StairPlans plans = Check.planned(270, 15, 0, 28, 90);
        for (int end : Check.noIndex(2)) {
            Check.due(Check.INDEX, "string(" + end + ")", () -> plans.string(end));
        }
        Check.due(466, "string(0) after those", () -> plans.string(0));
    }

    private static void notPlanned() {
        Check.sentence("IllegalStateException (first) (string)");
        for (int end : new int[] {0, 1, -1, 2, Integer.MIN_VALUE, Integer.MAX_VALUE}) {
            Check.due(Check.STATE, "string(" + end + ") of a new object", () -> new StairPlans().string(end));
        }
    }
}
