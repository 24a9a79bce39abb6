import java.math.BigInteger;
import java.util.Random;

/** Promises 79 and 80: half, joined. */
final class HalvesTest {
    private static final Due DUE = new Due("HalvesTest");
    private static final int BAD = RightsHouse.BAD, NO = RightsHouse.NO;
    private static final int P = 2147483647;

    public static void main(String[] args) {
        halves();
        joins();
        refusedJoins();
        tapesAnew();
        thereAndBack();
        DUE.end();
    }

    private static int half(int secret, int i, long... coefficients) {
        RightsHouse x = new RightsHouse();
        Due.numbers(x, coefficients);
        int half = x.half(secret, i);
        DUE.is("THE TAPE behind it", x.cut(0), half < 0 ? 4 * coefficients.length : 0);
        return half;
    }

    private static void halves() {
        DUE.is("of one", half(7, 1000), 7);
        DUE.is("of two", half(7, 3, 5), 22);
        DUE.is("of three", half(7, 3, 5, 2), 40);
        DUE.is("modulo p", half(P - 1, 1, 1), 0);
        DUE.is("p is 0", half(9, 2, P), 9);
        DUE.is("without sign", half(0, 1, 0xffffffffL), 1);
        DUE.is("the highest bit", half(0, 1, 0x80000000L), 1);
        DUE.is("the greatest", half(P - 1, 1000), P - 1);
        DUE.is("ten", half(1, 2, 1, 1, 1, 1, 1, 1, 1, 1, 1, 1), 2047);
        DUE.is("eleven", half(1, 2, 1, 1, 1, 1, 1, 1, 1, 1, 1, 1, 1), NO);
        DUE.is("secret p", half(P, 1, 5), BAD);
        DUE.is("secret -1", half(-1, 1, 5), BAD);
        DUE.is("i 0", half(1, 0, 5), BAD);
        DUE.is("i 1001", half(1, 1001, 5), BAD);
        RightsHouse x = new RightsHouse();
        x.feed(3, 1);
        DUE.is("three bytes", x.half(1, 1), NO);
        DUE.is("BAD ahead of NO", x.half(1, 0), BAD);
        DUE.is("THE TAPE stays", x.cut(0), 3);
    }

    private static int joined(long... pairs) {
        RightsHouse x = new RightsHouse();
        Due.numbers(x, pairs);
        int joined = x.joined();
        DUE.is("THE TAPE behind it", x.cut(0), joined < 0 ? 4 * pairs.length : 0);
        return joined;
    }

    private static void joins() {
        DUE.is("one", joined(1000, 9), 9);
        DUE.is("two", joined(1, 12, 3, 22), 7);
        DUE.is("in any order", joined(3, 22, 1, 12), 7);
        DUE.is("three", joined(1, 14, 2, 25, 3, 40), 7);
        DUE.is("the greatest half", joined(1, P - 1), P - 1);
    }

    private static void refusedJoins() {
        DUE.is("none", joined(), NO);
        DUE.is("no half", joined(1), NO);
        DUE.is("three numbers", joined(1, 2, 3), NO);
        DUE.is("eleven", joined(1, 1, 2, 1, 3, 1, 4, 1, 5, 1, 6, 1, 7, 1, 8, 1, 9, 1, 10, 1, 11, 1), NO);
        DUE.is("ten", joined(1, 1, 2, 1, 3, 1, 4, 1, 5, 1, 6, 1, 7, 1, 8, 1, 9, 1, 10, 1), 1);
        DUE.is("i 0", joined(0, 1), NO);
        DUE.is("i 1001", joined(1001, 1), NO);
        DUE.is("i without sign", joined(0xffffffffL, 1), NO);
        DUE.is("i twice", joined(5, 1, 4, 1, 5, 1), NO);
        DUE.is("a half p", joined(5, P), NO);
        DUE.is("a half without sign", joined(5, 0xffffffffL), NO);
        RightsHouse x = new RightsHouse();
        x.feed(5, 1);
        DUE.is("five bytes", x.joined(), NO);
    }

    /** What was on THE TAPE ahead of it is none of its HALVES. */
    private static void tapesAnew() {
        RightsHouse x = new RightsHouse();
        Due.numbers(x, 1, 14, 2, 25, 3, 40, 4, 77, 5, 99);
        DUE.is("five", x.joined() >= 0 ? 1 : 0, 1);
        Due.numbers(x, 1, 12, 3, 22);
        DUE.is("two", x.joined(), 7);
        Due.numbers(x, 9, 8);
        DUE.is("one", x.joined(), 8);
        Due.numbers(x, 1, 12, 3, 22, 4, 1, 5, 1);
        DUE.is("cut", x.cut(16), 16);
        DUE.is("two again", x.joined(), 7);
        Due.numbers(x, 5, 2);
        DUE.is("half", x.half(7, 3), 40);
        DUE.is("half of no more", x.half(7, 3), 7);
        for (int twice = 1; twice < 10; twice++) {
            long[] pairs = new long[20];
            for (int n = 0; n < 10; n++) {
                pairs[2 * n] = n == 9 ? twice : n + 1;
                pairs[2 * n + 1] = 256 * (n + 1);
            }
            DUE.is(twice + " twice", joined(pairs), NO);
        }
    }

    private static void thereAndBack() {
        Random random = new Random(2);
        for (int run = 0; run < 60; run++) {
            int k = 1 + random.nextInt(10);
            int secret = random.nextInt(P);
            long[] coefficients = new long[k - 1];
            for (int c = 0; c < k - 1; c++) {
                coefficients[c] = random.nextInt() & 0xffffffffL;
            }
            long[] pairs = new long[2 * k];
            int first = 1 + random.nextInt(50);
            for (int n = 0; n < k; n++) {
                int i = first + n * 95;
                pairs[2 * n] = i;
                pairs[2 * n + 1] = half(secret, i, coefficients);
                DUE.is("half " + i + " in run " + run, pairs[2 * n + 1], plain(secret, i, coefficients));
            }
            DUE.is("joined in run " + run, joined(pairs), secret);
        }
    }

    private static long plain(int secret, int i, long[] coefficients) {
        BigInteger sum = BigInteger.valueOf(secret);
        BigInteger power = BigInteger.ONE;
        for (long c : coefficients) {
            power = power.multiply(BigInteger.valueOf(i));
            sum = sum.add(power.multiply(BigInteger.valueOf(c)));
        }
        return sum.mod(BigInteger.valueOf(P)).longValue();
    }
}
