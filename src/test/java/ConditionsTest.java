import java.util.Random;

/** Section 3's CONDITIONS: random texts, worked out here once more over trees and the machine's doubles. */
final class ConditionsTest {
    private static final Due DUE = new Due("ConditionsTest");
    private static final int FALSE = 0, TRUE = 1, UNKNOWN = 2, FAIL = 10;
    private static final String[] SIGNS = {"<", "<=", "=", "<>", ">=", ">"};

    private final Random random;
    private final StringBuilder text = new StringBuilder();
    /** Sort and items of features 0 to 15: eight of the person, eight of the thing. */
    private final int[] sorts = new int[16];
    private final long[][] items = new long[16][];
    private final int now;
    private final int moment;

    private ConditionsTest(long seed) {
        random = new Random(seed);
        now = random.nextInt(50);
        moment = random.nextInt(50);
    }

    public static void main(String[] args) {
        for (int seed = 0; seed < 4000; seed++) {
            new ConditionsTest(seed).run(seed);
        }
        DUE.end();
    }

    private void run(int seed) {
        RightsHouse x = new RightsHouse();
        x.person();
        x.tick(now);
        bearFeatures(x);
        for (int i = 0; i < 6; i++) {
            text.setLength(0);
            Outcome due = or(3);
            if (text.length() > 1100) {
                continue;
            }
            int policy = Due.policy(x, 0, "maybe any r any if " + text);
            int answer = x.asked(policy, 0, 0, 0, moment);
            String told = "seed " + seed + ": " + text;
            if (due.truth > FAIL) {
                DUE.is(told, answer, 3);
                DUE.is("FAILURE of " + told, x.made(2), due.truth - FAIL);
            } else {
                DUE.is(told, answer, due.truth == FALSE ? 0 : 2);
                DUE.is("no FAILURE of " + told, x.made(2), 0);
            }
        }
    }

    private void bearFeatures(RightsHouse x) {
        for (int f = 0; f < 16; f++) {
            int bearer = f < 8 ? 0 : 100;
            sorts[f] = random.nextInt(4);
            items[f] = new long[sorts[f] == 0 ? 0 : random.nextInt(4)];
            x.feature(bearer, f % 8, sorts[f], items[f].length);
            for (int i = 0; i < items[f].length; i++) {
                long v = random.nextInt(7) - 2;
                items[f][i] = sorts[f] == 2 ? Double.doubleToLongBits(v / 2.0) : v;
                x.item(bearer, f % 8, i, items[f][i]);
            }
        }
    }

    /** What a condition comes to, or a sum: then a failure, UNKNOWN, or (truth TRUE) a value. */
    private static final class Outcome {
        int truth;
        boolean isReal;
        long whole;
        double real;

        static Outcome of(int truth) {
            Outcome o = new Outcome();
            o.truth = truth;
            return o;
        }

        static Outcome whole(long v) {
            Outcome o = of(TRUE);
            o.whole = v;
            return o;
        }

        static Outcome real(double v) {
            Outcome o = of(TRUE);
            o.isReal = true;
            o.real = v;
            return o;
        }

        double asReal() {
            return isReal ? real : (double) whole;
        }
    }

    private void blanks() {
        if (random.nextInt(3) == 0) {
            text.append(random.nextBoolean() ? " " : "\n");
        }
    }

    private void sign(String sign) {
        blanks();
        text.append(sign);
        blanks();
    }

    private void word(String word) {
        text.append(' ').append(word).append(' ');
    }

    private Outcome or(int depth) {
        Outcome left = and(depth);
        for (int n = random.nextInt(3); n > 1; n--) {
            word("or");
            Outcome right = and(depth);
            if (left.truth == UNKNOWN || left.truth == FALSE) {
                left = left.truth == UNKNOWN && right.truth == FALSE ? left : right;
            }
        }
        return left;
    }

    private Outcome and(int depth) {
        Outcome left = such(depth);
        for (int n = random.nextInt(3); n > 1; n--) {
            word("and");
            Outcome right = such(depth);
            if (left.truth == UNKNOWN || left.truth == TRUE) {
                left = left.truth == UNKNOWN && right.truth == TRUE ? left : right;
            }
        }
        return left;
    }

    private Outcome such(int depth) {
        int way = depth == 0 ? 3 + random.nextInt(4) : random.nextInt(7);
        if (way == 0) {
            word("not");
            Outcome of = such(depth - 1);
            return of.truth == TRUE ? Outcome.of(FALSE) : of.truth == FALSE ? Outcome.of(TRUE) : of;
        }
        if (way == 1) {
            sign("(");
            Outcome of = or(depth - 1);
            sign(")");
            return of;
        }
        if (way == 3) {
            word("known");
            return Outcome.of(sorts[feature()] == 0 ? FALSE : TRUE);
        }
        Outcome left = sum(depth);
        if (way == 4) {
            word("in");
            return among(left, feature());
        }
        String sign = SIGNS[random.nextInt(SIGNS.length)];
        sign(sign);
        Outcome right = sum(depth);
        if (left.truth != TRUE) {
            return left;
        }
        return right.truth != TRUE ? right : Outcome.of(isSo(left, sign, right) ? TRUE : FALSE);
    }

    private Outcome among(Outcome value, int f) {
        if (value.truth != TRUE) {
            return value;
        }
        if (value.isReal) {
            return Outcome.of(FAIL + 4);
        }
        if (sorts[f] == 0) {
            return Outcome.of(UNKNOWN);
        }
        if (sorts[f] != 3) {
            return Outcome.of(FAIL + 4);
        }
        for (long mark : items[f]) {
            if (mark == value.whole) {
                return Outcome.of(TRUE);
            }
        }
        return Outcome.of(FALSE);
    }

    private static boolean isSo(Outcome left, String sign, Outcome right) {
        boolean reals = left.isReal || right.isReal;
        boolean less = reals ? left.asReal() < right.asReal() : left.whole < right.whole;
        boolean like = reals ? left.asReal() == right.asReal() : left.whole == right.whole;
        boolean more = reals ? left.asReal() > right.asReal() : left.whole > right.whole;
        switch (sign) {
            case "<":
                return less;
            case "<=":
                return less || like;
            case "=":
                return like;
            case "<>":
                return !like;
            case ">=":
                return more || like;
            default:
                return more;
        }
    }

    private int feature() {
        int f = random.nextInt(16);
        text.append(f < 8 ? "me" : "it");
        sign(".");
        text.append((char) ('a' + f % 8));
        return f;
    }

    private Outcome sum(int depth) {
        Outcome left = product(depth);
        for (int n = random.nextInt(3); n > 1; n--) {
            String sign = random.nextBoolean() ? "+" : "-";
            sign(sign);
            left = calculated(left, sign, product(depth));
        }
        return left;
    }

    private Outcome product(int depth) {
        Outcome left = term(depth);
        for (int n = random.nextInt(3); n > 1; n--) {
            String sign = "*/%".substring(random.nextInt(3)).substring(0, 1);
            sign(sign);
            left = calculated(left, sign, term(depth));
        }
        return left;
    }

    private static Outcome calculated(Outcome left, String sign, Outcome right) {
        if (left.truth != TRUE) {
            return left;
        }
        if (right.truth != TRUE) {
            return right;
        }
        double a = left.asReal();
        double b = right.asReal();
        boolean reals = left.isReal || right.isReal;
        long x = left.whole;
        long y = right.whole;
        switch (sign) {
            case "+":
                return reals ? Outcome.real(a + b) : Outcome.whole(x + y);
            case "-":
                return reals ? Outcome.real(a - b) : Outcome.whole(x - y);
            case "*":
                return reals ? Outcome.real(a * b) : Outcome.whole(x * y);
            default:
                if (!reals && y == 0) {
                    return Outcome.of(FAIL + 5);
                }
                if (sign.equals("/")) {
                    return reals ? Outcome.real(a / b) : Outcome.whole(x / y);
                }
                return reals ? Outcome.real(a % b) : Outcome.whole(x % y);
        }
    }

    private Outcome term(int depth) {
        switch (depth == 0 ? 3 + random.nextInt(6) : random.nextInt(9)) {
            case 0:
                sign("(");
                Outcome of = sum(depth - 1);
                sign(")");
                return of;
            case 1:
                sign("-");
                Outcome term = term(depth - 1);
                return term.truth != TRUE ? term : term.isReal ? Outcome.real(-term.real) : Outcome.whole(-term.whole);
            case 2:
                int indexed = feature();
                sign("[");
                Outcome place = sum(depth - 1);
                sign("]");
                if (place.truth != TRUE) {
                    return place;
                }
                return place.isReal ? Outcome.of(FAIL + 4) : item(indexed, place.whole);
            case 3:
                boolean isNow = random.nextBoolean();
                text.append(isNow ? "now" : "age");
                return Outcome.whole(isNow ? moment : now - moment);
            case 4:
                word("size");
                int f = feature();
                return sorts[f] == 0 ? Outcome.of(UNKNOWN) : Outcome.whole(items[f].length);
            case 5:
                String real = random.nextInt(4) + "." + random.nextInt(100);
                text.append(real);
                return Outcome.real(Double.parseDouble(real));
            case 6:
                return item(feature(), 0);
            default:
                int whole = random.nextInt(6) == 0 ? 999999999 : random.nextInt(4);
                text.append(whole);
                return Outcome.whole(whole);
        }
    }

    private Outcome item(int f, long place) {
        if (sorts[f] == 0) {
            return Outcome.of(UNKNOWN);
        }
        if (place < 0 || place >= items[f].length) {
            return Outcome.of(FAIL + 2);
        }
        long v = items[f][(int) place];
        return sorts[f] == 2 ? Outcome.real(Double.longBitsToDouble(v)) : Outcome.whole(v);
    }
}
