import java.lang.reflect.Method;
import java.util.Random;

/** The REALS of section 3: the machine's doubles, worked out over longs, bit by bit as the machine does. */
final class RealsTest {
    private static final Due DUE = new Due("RealsTest");
    private static final long[] EDGES = {
        0L, Long.MIN_VALUE, 1L, 2L, 3L, 0x8000000000000001L, 0x000fffffffffffffL, 0x0010000000000000L, 0x0010000000000001L,
        0x001fffffffffffffL, 0x0020000000000000L, 0x3ff0000000000000L, 0xbff0000000000000L, 0x3ff0000000000001L,
        0x3fefffffffffffffL, 0x4000000000000000L, 0x4008000000000000L, 0x3fe0000000000000L, 0x7fefffffffffffffL,
        0xffefffffffffffffL, 0x7ff0000000000000L, 0xfff0000000000000L, 0x7ff8000000000000L, 0x4340000000000000L,
        0x433fffffffffffffL, 0x3ca0000000000000L, 0x3c90000000000000L, 0x3fb999999999999aL, 0x1ff0000000000000L,
        0x5ff0000000000000L, 0x0340000000000000L, 0x7fe0000000000000L};

    private static Method plus;
    private static Method times;
    private static Method over;
    private static Method rest;
    private static Method order;
    private static Method ofWhole;

    public static void main(String[] args) throws Exception {
        Class<?> reals = Class.forName("RightsHouse$Reals");
        plus = method(reals, "plus", 2);
        times = method(reals, "times", 2);
        over = method(reals, "over", 2);
        rest = method(reals, "rest", 2);
        order = method(reals, "order", 2);
        ofWhole = method(reals, "ofWhole", 1);
        edges();
        randoms();
        wholes();
        ties();
        byConditions();
        DUE.end();
    }

    private static Method method(Class<?> of, String name, int parameters) throws Exception {
        Method method = parameters == 2
                ? of.getDeclaredMethod(name, long.class, long.class) : of.getDeclaredMethod(name, long.class);
        method.setAccessible(true);
        return method;
    }

    private static long call(Method method, long x, long y) throws Exception {
        return ((Number) method.invoke(null, x, y)).longValue();
    }

    private static void pair(long x, long y) throws Exception {
        double a = Double.longBitsToDouble(x);
        double b = Double.longBitsToDouble(y);
        String told = Long.toHexString(x) + " " + Long.toHexString(y);
        DUE.is("+ " + told, call(plus, x, y), Double.doubleToLongBits(a + b));
        DUE.is("- " + told, call(plus, x, Double.doubleToLongBits(-b)), Double.doubleToLongBits(a - b));
        DUE.is("* " + told, call(times, x, y), Double.doubleToLongBits(a * b));
        DUE.is("/ " + told, call(over, x, y), Double.doubleToLongBits(a / b));
        DUE.is("% " + told, call(rest, x, y), Double.doubleToLongBits(a % b));
        int due = a < b ? -1 : a > b ? 1 : a == b ? 0 : 2;
        DUE.is("order " + told, call(order, x, y), due);
    }

    private static void edges() throws Exception {
        for (long x : EDGES) {
            for (long y : EDGES) {
                pair(x, y);
            }
        }
    }

    private static void randoms() throws Exception {
        Random random = new Random(17);
        for (int i = 0; i < 60000; i++) {
            long x = random.nextLong();
            long y = random.nextLong();
            switch (i % 6) {
                case 1:
                    // Near exponents, where sums lose bits and cancel.
                    y = y & 0x800fffffffffffffL | Math.max(0, Math.min(2046, (x >>> 52 & 2047) + random.nextInt(130) - 65)) << 52;
                    break;
                case 2:
                    x &= 0x801fffffffffffffL;
                    break;
                case 3:
                    x = Double.doubleToLongBits(random.nextInt(2000) - 1000);
                    y = Double.doubleToLongBits((random.nextInt(2000) - 1000) / 8.0);
                    break;
                case 4:
                    // Products and quotients about the least numbers.
                    x = x & 0x800fffffffffffffL | (long) random.nextInt(1100) << 52;
                    y = y & 0x800fffffffffffffL | (long) (1023 - random.nextInt(60)) << 52;
                    break;
                case 5:
                    y = x ^ random.nextInt(8);
                    break;
                default:
                    break;
            }
            if (!Double.isNaN(Double.longBitsToDouble(x)) && !Double.isNaN(Double.longBitsToDouble(y))) {
                pair(x, y);
            }
        }
    }

    private static void wholes() throws Exception {
        Random random = new Random(18);
        for (int i = 0; i < 20000; i++) {
            long v = random.nextLong() >> random.nextInt(64);
            DUE.is("(double) " + v, (Long) ofWhole.invoke(null, v), Double.doubleToLongBits((double) v));
        }
        for (int shift = 52; shift < 64; shift++) {
            for (int by = -3; by <= 3; by++) {
                long v = (1L << shift) + by;
                DUE.is("(double) " + v, (Long) ofWhole.invoke(null, v), Double.doubleToLongBits((double) v));
            }
        }
        DUE.is("(double) 0", (Long) ofWhole.invoke(null, 0L), 0L);
    }

    /** Products of which all bits but a last one lie in the middle between two doubles: that one decides. */
    private static void ties() throws Exception {
        Random random = new Random(19);
        long one = 0x3ff0000000000000L;
        for (int bit = 0; bit < 52; bit++) {
            for (int n = 0; n < 40; n++) {
                long a = 1L << 52 | random.nextLong() >>> 12 | 1;
                long inverse = a;
                for (int i = 0; i < 6; i++) {
                    inverse *= 2 - a * inverse;
                }
                long b = inverse * ((1L << 52) + (1L << bit)) & (1L << 53) - 1;
                if (b >>> 52 == 1) {
                    long x = one | a & (1L << 52) - 1;
                    long y = one | b & (1L << 52) - 1;
                    pair(x, y);
                    pair(x, y ^ Long.MIN_VALUE);
                }
            }
        }
        for (long v = -2049; v <= 2049; v++) {
            for (int shift = 54; shift < 63; shift++) {
                long whole = (1L << shift) + v;
                DUE.is("(double) " + whole, (Long) ofWhole.invoke(null, whole), Double.doubleToLongBits((double) whole));
                DUE.is("(double) " + -whole, (Long) ofWhole.invoke(null, -whole), Double.doubleToLongBits((double) -whole));
            }
        }
    }

    /** As a rule's condition: 1 yes, 0 none. */
    private static int holds(String condition, double a, double b) {
        RightsHouse x = new RightsHouse();
        x.person();
        x.feature(0, 0, 2, 1);
        x.item(0, 0, 0, Double.doubleToRawLongBits(a));
        x.feature(100, 0, 2, 1);
        x.item(100, 0, 0, Double.doubleToRawLongBits(b));
        return x.asked(Due.policy(x, 0, "yes any all any if " + condition), 0, 0, 0, 0);
    }

    private static void byConditions() {
        double none = Double.longBitsToDouble(0xfff0000000000123L);
        DUE.is("0.1 + 0.2 <> 0.3", holds("0.1 + 0.2 <> 0.3", 0, 0), 1);
        DUE.is("0.1 + 0.2 > 0.3", holds("0.1 + 0.2 > 0.3", 0, 0), 1);
        DUE.is("me.a / it.a by 0", holds("me.a / it.a > 999999999", 1, 0), 1);
        DUE.is("me.a / - it.a by -0", holds("me.a / - it.a < - 999999999", 1, 0), 1);
        DUE.is("0.0 = -0.0", holds("me.a = it.a", 0.0, -0.0), 1);
        DUE.is("-7.5 % 2", holds("me.a % 2 = - 1.5", -7.5, 0), 1);
        DUE.is("1 / 2.0", holds("1 / 2.0 = 0.5", 0, 0), 1);
        DUE.is("1 / 2", holds("1 / 2 = 0", 0, 0), 1);
        DUE.is("REAL as the feature's", holds("me.a = 123456789.123457", 123456789.123457, 0), 1);
        DUE.is("least figures", holds("me.a = 0.000001", 0.000001, 0), 1);
        DUE.is("most figures", holds("me.a = 999999999.999999", 999999999.999999, 0), 1);
        for (String sign : new String[] {"<", "<=", "=", ">=", ">"}) {
            DUE.is("no number " + sign, holds("me.a " + sign + " it.a", none, 1), 0);
            DUE.is("no number " + sign + " itself", holds("me.a " + sign + " me.a", none, 1), 0);
        }
        DUE.is("no number <>", holds("me.a <> me.a", none, 1), 1);
        DUE.is("no number not <", holds("not me.a < 1", none, 1), 1);
        DUE.is("0 / 0.0", holds("0 / 0.0 <> 0 / 0.0", 0, 0), 1);
        DUE.is("0.0 % 0", holds("me.a % 0 = me.a % 0", 0, 0), 0);
        DUE.is("a WHOLE becomes a REAL", holds("999999999 * 999999999 * 9 + 1 = me.a", 999999999.0 * 999999999.0 * 9, 0), 1);
    }
}
