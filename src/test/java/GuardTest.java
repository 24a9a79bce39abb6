import java.math.BigInteger;
import java.util.ArrayList;
import java.util.List;
import java.util.Random;

/** Promises 70 to 73: guarded, sum, share, knows. */
final class GuardTest {
    private static final Due DUE = new Due("GuardTest");
    private static final int BAD = RightsHouse.BAD, NO = RightsHouse.NO, FULL = RightsHouse.FULL;

    public static void main(String[] args) {
        sums();
        sumsLikeRefusals();
        shares();
        sharesOfAll();
        full();
        fractions();
        latePersons();
        byBigNumbers();
        DUE.end();
    }

    private static void sums() {
        RightsHouse x = Due.house(4, 0);
        DUE.is("guarded", x.guarded(0, Long.MAX_VALUE), 0);
        DUE.is("guarded again", x.guarded(0, Long.MAX_VALUE), Long.MAX_VALUE);
        DUE.is("guarded no person", x.guarded(4, 1), BAD);
        DUE.is("guarded -1", x.guarded(-1, 1), BAD);
        x.guarded(1, 1);
        x.guarded(2, 5);
        DUE.is("one alone", x.sum(0, 1), NO);
        DUE.is("running over", x.sum(0, 3), Long.MIN_VALUE);
        DUE.is("what would give 2 away", x.sum(0, 7), NO);
        DUE.is("others", x.sum(0, 12), 5);
        DUE.is("all four, as it follows", x.sum(0, 15), Long.MIN_VALUE + 5);
        DUE.is("how many", x.knows(0, 0), 3);
        DUE.is("of what rank", x.knows(0, 1), 2);
        x.guarded(2, 6);
        DUE.is("told again", x.sum(0, 12), 6);
        DUE.is("not put again", x.knows(0, 0), 3);
        DUE.is("another asker", x.sum(1, 7), Long.MIN_VALUE + 6);
        DUE.is("what another knows", x.knows(1, 0), 1);
        DUE.is("the third knows nothing", x.knows(2, 0) + x.knows(2, 1), 0);
        DUE.is("no asker", x.sum(4, 3), BAD);
        DUE.is("asker -1", x.sum(-1, 3), BAD);
        DUE.is("of none", x.sum(0, 0), BAD);
        DUE.is("with others", x.sum(0, 16), BAD);
        DUE.is("with others far up", x.sum(0, 3 | 1L << 40), BAD);
        DUE.is("below 0", x.sum(0, Long.MIN_VALUE | 3), BAD);
        DUE.is("knows what 2", x.knows(0, 2), BAD);
        DUE.is("knows what -1", x.knows(0, -1), BAD);
        DUE.is("knows asker 4", x.knows(4, 0), BAD);
        RightsHouse y = Due.house(20, 0);
        DUE.is("all twenty", y.sum(0, (1 << 20) - 1), 0);
        DUE.is("all but one", y.sum(0, (1 << 19) - 1), NO);
    }

    /** 70, 71: "BAD (which it may be)", and what the others are; "(bits; running over)". */
    private static void sumsLikeRefusals() {
        RightsHouse x = Due.house(2, 0);
        x.guarded(1, 10);
        for (long v = -4; v <= -1; v++) {
            x.guarded(0, v - 10);
            DUE.is("sum " + v, x.sum(0, 3), v);
            DUE.is("its number", x.guarded(0, v), v - 10);
            DUE.is("guarded " + v, x.guarded(0, v), v);
        }
        x.guarded(0, Long.MIN_VALUE);
        x.guarded(1, Long.MIN_VALUE);
        DUE.is("running over to 0", x.sum(0, 3), 0);
        x.guarded(1, -1);
        DUE.is("running over below", x.sum(0, 3), Long.MAX_VALUE);
        DUE.is("the least", x.guarded(0, 0), Long.MIN_VALUE);
        DUE.is("told once", x.knows(0, 0), 1);
    }

    private static void shares() {
        RightsHouse x = Due.house(4, 0);
        x.sum(0, 3);
        x.sum(1, 6);
        x.sum(2, 7);
        DUE.is("the same", x.share(1, 1), BAD);
        DUE.is("no asker", x.share(1, 4), BAD);
        DUE.is("asker -1", x.share(-1, 1), BAD);
        DUE.is("would give 2 away", x.share(0, 2), NO);
        DUE.is("share", x.share(0, 1), 1);
        DUE.is("they do", x.share(1, 0), 0);
        DUE.is("by another one", x.share(1, 2), NO);
        DUE.is("how many together", x.knows(0, 0), 2);
        DUE.is("of what rank", x.knows(1, 1), 2);
        DUE.is("refused for both", x.sum(0, 4), NO);
        DUE.is("refused by the other's", x.sum(0, 7), NO);
        DUE.is("told to the other alone: put", x.sum(0, 6), 0);
        DUE.is("each set once", x.knows(0, 0), 2);
        DUE.is("a third", x.share(3, 1), 1);
        DUE.is("all three", x.share(3, 0), 0);
        DUE.is("a third knows", x.knows(3, 0), 2);
        DUE.is("new for all", x.sum(3, 15), 0);
        DUE.is("the first knows it", x.knows(0, 0), 3);
        DUE.is("rank 3", x.knows(0, 1), 3);
        DUE.is("from then on", x.sum(1, 8), NO);
    }

    /** 72: "0: they do", whichever of them is told first; 73: "each set once". */
    private static void sharesOfAll() {
        for (int a = 0; a < 4; a++) {
            for (int b = 0; b < 4; b++) {
                if (a == b) {
                    continue;
                }
                RightsHouse x = Due.house(4, 0);
                DUE.is("share " + a + " " + b, x.share(a, b), 1);
                DUE.is("they do, " + a + " " + b, x.share(a, b), 0);
                DUE.is("they do, " + b + " " + a, x.share(b, a), 0);
                x.sum(a, 3);
                x.sum(b, 3);
                x.sum(b, 12);
                x.sum(a, 12);
                DUE.is("each set once, " + a, x.knows(a, 0), 2);
                DUE.is("each set once, " + b, x.knows(b, 0), 2);
                for (int c = 0; c < 4; c++) {
                    boolean isOther = c != a && c != b;
                    DUE.is("others, " + c, isOther ? x.knows(c, 0) : 0, 0);
                    DUE.is("others share, " + c, isOther ? x.share(c, a) : 1, 1);
                    DUE.is("with both, " + c, isOther ? x.share(b, c) : 0, 0);
                }
                x.sum(0, 15);
                x.sum(3, 15);
                DUE.is("all four", x.knows(2, 0), 3);
                DUE.is("their rank", x.knows(1, 1), 2);
            }
        }
    }

    private static void full() {
        RightsHouse x = Due.house(20, 0);
        int told = 0;
        // Pairs of one of the first ten and one of the last ten give nobody away.
        for (int a = 0; a < 10 && told < 40; a++) {
            for (int b = 10; b < 20 && told < 40; b++) {
                DUE.is("pair " + a + " " + b, x.sum(0, 1L << a | 1L << b), 0);
                told++;
            }
        }
        DUE.is("how many", x.knows(0, 0), 40);
        DUE.is("of what rank", x.knows(0, 1), 13);
        DUE.is("one more", x.sum(0, 1L << 5 | 1L << 15), FULL);
        DUE.is("FULL ahead of NO", x.sum(0, 1), FULL);
        DUE.is("told again ahead of FULL", x.sum(0, 1L | 1L << 10), 0);
        DUE.is("BAD ahead of FULL", x.sum(0, 0), BAD);
        DUE.is("another one", x.sum(1, 1L << 5 | 1L << 15), 0);
        DUE.is("the rank of the first alone", x.knows(0, 1), 13);
        DUE.is("share", x.share(0, 1), 1);
        DUE.is("41 together", x.knows(1, 0), 41);
        DUE.is("their rank", x.knows(1, 1), 14);
        DUE.is("the other one's put, too", x.sum(1, 1L | 1L << 10), 0);
        DUE.is("each set once", x.knows(1, 0), 41);
    }

    /** Three pairs of three persons give each away, but by halves alone. */
    private static void fractions() {
        RightsHouse x = Due.house(4, 0);
        DUE.is("0 1", x.sum(0, 3), 0);
        DUE.is("1 2", x.sum(0, 6), 0);
        DUE.is("0 2", x.sum(0, 5), NO);
        DUE.is("2 3", x.sum(0, 12), 0);
        DUE.is("0 3 follows", x.sum(0, 9), 0);
        DUE.is("1 3", x.sum(0, 10), NO);
        DUE.is("rank", x.knows(0, 1), 3);
    }

    private static void latePersons() {
        RightsHouse x = Due.house(2, 0);
        DUE.is("both", x.sum(0, 3), 0);
        DUE.is("a third is none", x.sum(0, 7), BAD);
        x.person();
        DUE.is("the third comes", x.sum(0, 7), NO);
        x.person();
        DUE.is("the fourth comes", x.sum(0, 15), 0);
    }

    /** Random sets, worked out once more over big fractions. */
    private static void byBigNumbers() {
        Random random = new Random(23);
        for (int run = 0; run < 120; run++) {
            int persons = 3 + random.nextInt(18);
            RightsHouse x = Due.house(persons, 0);
            List<Long> told = new ArrayList<>();
            for (int i = 0; i < 60 && told.size() < 40; i++) {
                long set = 1 + (long) (random.nextDouble() * ((1L << persons) - 1));
                if (run % 3 == 0) {
                    set = 1L << random.nextInt(persons) | 1L << random.nextInt(persons) | 1L << random.nextInt(persons);
                }
                if (told.contains(set)) {
                    continue;
                }
                told.add(set);
                boolean reveals = reveals(told, persons);
                DUE.is("sum " + Long.toBinaryString(set) + " in run " + run, x.sum(0, set), reveals ? NO : 0);
                if (reveals) {
                    told.remove(told.size() - 1);
                }
            }
            DUE.is("rank in run " + run, x.knows(0, 1), reduced(told, persons).size());
        }
    }

    private static boolean reveals(List<Long> sets, int persons) {
        for (BigInteger[] row : reduced(sets, persons)) {
            int others = 0;
            for (BigInteger entry : row) {
                others += entry.signum() != 0 ? 1 : 0;
            }
            if (others == 1) {
                return true;
            }
        }
        return false;
    }

    /** Rows of whole numbers, each with a place where no other one has any. */
    private static List<BigInteger[]> reduced(List<Long> sets, int persons) {
        List<BigInteger[]> rows = new ArrayList<>();
        List<Integer> leads = new ArrayList<>();
        for (long set : sets) {
            BigInteger[] row = new BigInteger[persons];
            for (int p = 0; p < persons; p++) {
                row[p] = BigInteger.valueOf(set >> p & 1);
            }
            for (int r = 0; r < rows.size(); r++) {
                row = without(row, rows.get(r), leads.get(r));
            }
            int lead = 0;
            while (lead < persons && row[lead].signum() == 0) {
                lead++;
            }
            if (lead < persons) {
                for (int r = 0; r < rows.size(); r++) {
                    rows.set(r, without(rows.get(r), row, lead));
                }
                rows.add(row);
                leads.add(lead);
            }
        }
        return rows;
    }

    private static BigInteger[] without(BigInteger[] row, BigInteger[] other, int lead) {
        BigInteger factor = row[lead];
        BigInteger common = BigInteger.ZERO;
        BigInteger[] left = new BigInteger[row.length];
        for (int p = 0; p < row.length; p++) {
            left[p] = row[p].multiply(other[lead]).subtract(other[p].multiply(factor));
            common = common.gcd(left[p]);
        }
        for (int p = 0; p < row.length && common.signum() != 0; p++) {
            left[p] = left[p].divide(common);
        }
        return left;
    }
}
