import java.util.Random;

/** Promises 52 to 60: lend, endLend, stands, chain, useRight, lendOf; key, ever, gain. */
final class LendsTest {
    private static final Due DUE = new Due("LendsTest");
    private static final int BAD = RightsHouse.BAD, NO = RightsHouse.NO, FULL = RightsHouse.FULL, NONE = RightsHouse.NONE;
    private static final int R = 0, W = 1, X = 2, O = 5;

    public static void main(String[] args) {
        lends();
        badLends();
        fullLends();
        ends();
        stands();
        uses();
        chainOfWhatIsGiven();
        furthest();
        byWalking();
        keys();
        gains();
        gainsNoMore();
        mostGains();
        howManyGains();
        badKeys();
        allKeys();
        DUE.end();
    }

    /** Persons 0 to 4; thing 1 of person 0 in 0, thing 2 of person 1 in 1, thing 3 of nobody in 1. */
    private static RightsHouse house() {
        RightsHouse x = Due.house(5, 0);
        x.thing(0, 0);
        x.thing(1, 1);
        x.thing(1, NONE);
        return x;
    }

    private static void lends() {
        RightsHouse x = house();
        x.tick(3);
        DUE.is("by the owner", x.lend(0, 1, W, 1, 50, 2, 9), 0);
        int[] due = {0, 1, W, 1, 50, 2, 9, 0};
        for (int what = 0; what < 8; what++) {
            DUE.is("lendOf " + what, x.lendOf(0, what), due[what]);
        }
        DUE.is("lendOf 8", x.lendOf(0, 8), BAD);
        DUE.is("lendOf -1", x.lendOf(0, -1), BAD);
        DUE.is("lendOf none", x.lendOf(1, 0), BAD);
        DUE.is("FURTHER one less", x.lend(1, 2, R, 3, 60, 1, -1), 1);
        DUE.is("FURTHER the same", x.lend(1, 2, R, 3, 60, 2, -1), NO);
        DUE.is("another ACT", x.lend(1, 2, X, 3, 60, 0, -1), NO);
        DUE.is("not UNDER it", x.lend(1, 2, R, 0, 60, 0, -1), NO);
        DUE.is("the owner of the PLACE does not own what is in it", x.lend(0, 2, R, 3, 60, 0, -1), NO);
        DUE.is("who lent it has it not for what is in it", x.stands(0, R, 3, 5), 0);
        DUE.is("on", x.lend(2, 3, R, 3, 60, 0, -1), 2);
        DUE.is("not further", x.lend(3, 4, R, 3, 60, 0, -1), NO);
        DUE.is("nobody has it", x.lend(4, 3, R, 3, 60, 0, -1), NO);
        DUE.is("the owner of another one", x.lend(1, 4, O, 2, 60, 20, 0), 3);
    }

    private static void badLends() {
        RightsHouse x = house();
        x.tick(3);
        DUE.is("no lender", x.lend(5, 1, R, 1, 9, 0, -1), BAD);
        DUE.is("no borrower", x.lend(0, 5, R, 1, 9, 0, -1), BAD);
        DUE.is("both the same", x.lend(0, 0, R, 1, 9, 0, -1), BAD);
        DUE.is("no act", x.lend(0, 1, 6, 1, 9, 0, -1), BAD);
        DUE.is("no thing", x.lend(0, 1, R, 4, 9, 0, -1), BAD);
        DUE.is("until NOW", x.lend(0, 1, R, 1, 3, 0, -1), BAD);
        DUE.is("until beyond", x.lend(0, 1, R, 1, 1000000001, 0, -1), BAD);
        DUE.is("further -1", x.lend(0, 1, R, 1, 9, -1, -1), BAD);
        DUE.is("further 21", x.lend(0, 1, R, 1, 9, 21, -1), BAD);
        DUE.is("uses -2", x.lend(0, 1, R, 1, 9, 0, -2), BAD);
        x.thing(0, 0);
        x.drop(4);
        DUE.is("a GONE thing", x.lend(0, 1, R, 4, 9, 0, -1), BAD);
        DUE.is("at the edges", x.lend(0, 1, R, 1, 1000000000, 20, 0), 0);
    }

    private static void fullLends() {
        RightsHouse x = house();
        for (int i = 0; i < 60; i++) {
            DUE.is("lend " + i, x.lend(0, 1, R, 1, 9, 0, -1), i);
        }
        DUE.is("lend 60", x.lend(0, 1, R, 1, 9, 0, -1), FULL);
        DUE.is("NO ahead of FULL", x.lend(2, 1, R, 1, 9, 0, -1), NO);
        DUE.is("BAD ahead of NO", x.lend(2, 1, R, 1, 0, 0, -1), BAD);
    }

    private static void ends() {
        RightsHouse x = house();
        x.lend(0, 1, R, 1, 50, 3, -1);
        x.lend(1, 2, R, 1, 50, 2, -1);
        DUE.is("by another", x.endLend(1, 2), NO);
        DUE.is("by nobody", x.endLend(1, 5), BAD);
        DUE.is("no lend", x.endLend(2, 0), BAD);
        DUE.is("by the owner", x.endLend(1, 0), 1);
        DUE.is("again", x.endLend(1, 0), NO);
        DUE.is("taken back", x.lendOf(1, 7), 1);
        DUE.is("by who lent it", x.endLend(0, 0), 1);
        x.lend(0, 1, R, 1, 50, 1, -1);
        x.lend(0, 1, R, 1, 50, 2, -1);
        x.lend(1, 2, R, 1, 50, 1, -1);
        x.lend(2, 3, R, 1, 50, 0, -1);
        DUE.is("lent on", x.stands(3, R, 1, 0), 1);
        x.endLend(3, 0);
        DUE.is("who lends has it still", x.stands(1, R, 1, 0), 1);
        DUE.is("but not to be lent on so far", x.stands(2, R, 1, 0), 0);
        DUE.is("nor further", x.stands(3, R, 1, 0), 0);
        x.lend(0, 1, R, 1, 50, 2, -1);
        DUE.is("far enough again", x.stands(3, R, 1, 0), 1);
        DUE.is("by the new one", x.chain(2), 6);
        RightsHouse y = house();
        y.lend(0, 1, R, 1, 50, 3, -1);
        y.lend(1, 2, R, 1, 50, 2, -1);
        DUE.is("stands", y.stands(2, R, 1, 0), 1);
        DUE.is("by who lent it on", y.endLend(1, 1), 1);
        DUE.is("stands no more", y.stands(2, R, 1, 0), 0);
    }

    private static void stands() {
        RightsHouse x = house();
        DUE.is("the owner's", x.stands(0, O, 1, 5), 1);
        DUE.is("without LENDS", x.chain(-1), 0);
        DUE.is("chain 0", x.chain(0), BAD);
        DUE.is("chain -2", x.chain(-2), BAD);
        DUE.is("nobody else's", x.stands(1, R, 1, 5), 0);
        x.lend(0, 1, W, 1, 30, 5, -1);
        x.lend(0, 1, R, 1, 60, 1, -1);
        x.lend(1, 2, R, 3, 50, 0, -1);
        DUE.is("stands", x.stands(2, R, 3, 29), 1);
        DUE.is("how many", x.chain(-1), 2);
        DUE.is("the last LEND", x.chain(0), 2);
        DUE.is("the least that does", x.chain(1), 0);
        DUE.is("chain 2", x.chain(2), BAD);
        DUE.is("BAD", x.stands(2, R, 4, 29), BAD);
        DUE.is("BAD leaves THE CHAIN", x.chain(-1), 2);
        DUE.is("when the first is over", x.stands(2, R, 3, 30), 1);
        DUE.is("the next that does", x.chain(1), 1);
        DUE.is("at its end", x.stands(2, R, 3, 50), 0);
        DUE.is("no CHAIN", x.chain(-1), 0);
        DUE.is("w alone", x.stands(1, W, 2, 29), 1);
        DUE.is("no more w", x.stands(1, W, 1, 30), 0);
        x.cutOff(3, true);
        DUE.is("CUT off", x.stands(2, R, 3, 5), 0);
        x.cutOff(3, false);
        x.holds(1, 0, false);
        DUE.is("w holds r no more, but 1", x.stands(2, R, 3, 5), 1);
        DUE.is("by 1", x.chain(1), 1);
        x.endLend(1, 0);
        DUE.is("none left", x.stands(2, R, 3, 5), 0);
        DUE.is("no person", x.stands(5, R, 1, 5), BAD);
        DUE.is("no act", x.stands(0, 6, 1, 5), BAD);
        DUE.is("t below 0", x.stands(0, R, 1, -1), BAD);
        DUE.is("t beyond", x.stands(0, R, 1, 1000000001), BAD);
        x.drop(3);
        DUE.is("GONE", x.stands(2, R, 3, 5), BAD);
    }

    private static void uses() {
        RightsHouse x = house();
        x.lend(0, 1, R, 1, 30, 5, 2);
        x.lend(1, 2, R, 1, 30, 0, -1);
        DUE.is("use", x.useRight(2, R, 1), 1);
        DUE.is("one less", x.lendOf(0, 6), 1);
        DUE.is("any stay", x.lendOf(1, 6), -1);
        DUE.is("THE CHAIN", x.chain(-1), 2);
        DUE.is("use", x.useRight(1, R, 1), 1);
        DUE.is("none left", x.lendOf(0, 6), 0);
        DUE.is("THE CHAIN of that", x.chain(-1), 1);
        DUE.is("use no more", x.useRight(1, R, 1), NO);
        DUE.is("no CHAIN", x.chain(-1), 0);
        DUE.is("nor who has it from there", x.useRight(2, R, 1), NO);
        DUE.is("nor lend it", x.lend(1, 3, R, 1, 30, 0, -1), NO);
        DUE.is("none below 0", x.lendOf(0, 6), 0);
        DUE.is("the owner's", x.useRight(0, W, 1), 1);
        DUE.is("USES 0", x.lend(0, 3, R, 1, 30, 0, 0), 2);
        DUE.is("of no use", x.stands(3, R, 1, 0), 0);
        DUE.is("no person", x.useRight(5, R, 1), BAD);
        DUE.is("no act", x.useRight(0, -1, 1), BAD);
        DUE.is("no thing", x.useRight(0, R, 4), BAD);
        x.lend(0, 4, R, 1, 30, 0, 1);
        x.tick(30);
        DUE.is("NOW", x.useRight(4, R, 1), NO);
        DUE.is("not used", x.lendOf(3, 6), 1);
    }

    /** "what it gives (its ACT, its THING) STANDS for who lent it": the LEND's, not those of the RIGHT asked for. */
    private static void chainOfWhatIsGiven() {
        RightsHouse x = house();
        x.lend(0, 1, R, 1, 90, 9, -1);
        x.lend(0, 1, W, 1, 90, 9, -1);
        x.lend(1, 2, W, 1, 90, 8, -1);
        DUE.is("r by w", x.stands(2, R, 3, 0), 1);
        DUE.is("two LENDS", x.chain(-1), 2);
        DUE.is("the last one", x.chain(0), 2);
        DUE.is("the one that gives w", x.chain(1), 1);
        x.endLend(1, 0);
        DUE.is("no w, no r by it", x.stands(2, R, 3, 0), 0);
        RightsHouse y = house();
        y.lend(0, 2, R, 1, 90, 9, -1);
        y.lend(2, 1, R, 3, 90, 7, -1);
        y.lend(2, 1, R, 1, 90, 7, -1);
        y.lend(1, 3, R, 1, 90, 6, -1);
        DUE.is("on a THING in it", y.stands(3, R, 3, 0), 1);
        DUE.is("the one that gives all of it", y.chain(1), 2);
        DUE.is("and the owner's", y.chain(2), 0);
        DUE.is("three LENDS", y.chain(-1), 3);
    }

    private static void furthest() {
        RightsHouse x = Due.house(20, 0);
        x.thing(0, 0);
        for (int p = 0; p < 19; p++) {
            DUE.is("lend " + p, x.lend(p, p + 1, R, 1, 9, 20 - p, -1), p);
        }
        DUE.is("back to 1", x.lend(19, 1, R, 1, 9, 1, -1), 19);
        DUE.is("on to 2", x.lend(1, 2, R, 1, 9, 0, -1), 20);
        DUE.is("the end of the chain", x.stands(19, R, 1, 0), 1);
        DUE.is("its length", x.chain(-1), 19);
        x.endLend(0, 0);
        DUE.is("all fall", x.stands(19, R, 1, 0), 0);
        DUE.is("a ring holds nothing up", x.stands(1, R, 1, 0), 0);
    }

    /** stands() and THE CHAIN against the words of the document, walked through as they stand. */
    private static void byWalking() {
        Random random = new Random(11);
        for (int run = 0; run < 60; run++) {
            RightsHouse x = house();
            int lends = 0;
            for (int i = 0; i < 25; i++) {
                int l = x.lend(random.nextInt(5), random.nextInt(5), random.nextInt(2), 1 + random.nextInt(3),
                        1 + random.nextInt(9), random.nextInt(5), random.nextInt(4) - 1);
                lends = Math.max(lends, l + 1);
                if (lends > 0 && random.nextInt(5) == 0) {
                    x.endLend(random.nextInt(lends), random.nextInt(5));
                }
                if (random.nextInt(5) == 0) {
                    x.useRight(random.nextInt(5), random.nextInt(2), 1 + random.nextInt(3));
                }
            }
            for (int p = 0; p < 5; p++) {
                for (int thing = 1; thing <= 3; thing++) {
                    int t = random.nextInt(10);
                    int[] chain = new int[30];
                    int length = walked(x, lends, p, R, thing, t, 0, chain, 0);
                    DUE.is("stands(" + p + ", 0, " + thing + ", " + t + ") in run " + run, x.stands(p, R, thing, t), length < 0 ? 0 : 1);
                    DUE.is("its chain in run " + run, x.chain(-1), Math.max(length, 0));
                    for (int i = 0; i < length; i++) {
                        DUE.is("chain " + i + " in run " + run, x.chain(i), chain[i]);
                    }
                }
            }
        }
    }

    /** The chain's length; -1 if the right does not stand. */
    private static int walked(RightsHouse x, int lends, int p, int act, int thing, int t, int f, int[] chain, int at) {
        if (x.thingOf(thing, 1) == p) {
            return at;
        }
        for (int l = 0; l < lends; l++) {
            boolean does = x.lendOf(l, 1) == p && x.lendOf(l, 7) == 0 && t < x.lendOf(l, 4) && x.lendOf(l, 6) != 0
                    && x.doesHold(x.lendOf(l, 2), act) == 1 && x.under(thing, x.lendOf(l, 3)) == 1 && x.lendOf(l, 5) >= f;
            if (does) {
                chain[at] = l;
                int length = walked(x, lends, x.lendOf(l, 0), x.lendOf(l, 2), x.lendOf(l, 3), t, x.lendOf(l, 5) + 1, chain, at + 1);
                if (length >= 0) {
                    return length;
                }
            }
        }
        return -1;
    }

    private static void keys() {
        RightsHouse x = new RightsHouse();
        DUE.is("key", x.key(0, 1, 1), 0);
        DUE.is("key again", x.key(0, 1, 9), 1);
        DUE.is("what it has at once", x.ever(0, 1, 9), 0);
        DUE.is("a part of it", x.ever(0, 1, 8), 0);
        DUE.is("never", x.ever(0, 1, 2), NONE);
        DUE.is("key away", x.key(0, 1, 0), 9);
        DUE.is("no more", x.ever(0, 1, 1), NONE);
    }

    private static void gains() {
        RightsHouse x = new RightsHouse();
        x.key(2, 1, 1);
        x.key(1, 0, 4);
        x.key(1, 2, 2);
        // x 1 y 2: 2 gets 4 on 0, 2 on 2; x 2 y 1: then (by 2 on 2, later) nothing more on 1.
        DUE.is("how many", x.gain(-1, 0), 2);
        DUE.is("who", x.gain(0, 0), 2);
        DUE.is("on whom", x.gain(0, 1), 0);
        DUE.is("bits", x.gain(0, 2), 4);
        DUE.is("on itself", x.gain(1, 1), 2);
        DUE.is("ever on itself", x.ever(2, 2, 2), 2);
        DUE.is("ever 4", x.ever(2, 0, 4), 1);
        x.key(1, 0, 12);
        DUE.is("bits together", x.gain(0, 2), 12);
        x.key(2, 0, 4);
        DUE.is("only what comes", x.gain(0, 2), 8);
        DUE.is("with what there was", x.ever(2, 0, 12), 1);
        x.key(1, 2, 0);
        DUE.is("by TAKE", x.gain(0, 2), 8);
        DUE.is("alone", x.gain(-1, 0), 1);
        DUE.is("gain 1", x.gain(1, 0), BAD);
        DUE.is("gain -2", x.gain(-2, 0), BAD);
        DUE.is("gain what 3", x.gain(0, 3), BAD);
        DUE.is("gain what -1", x.gain(0, -1), BAD);
    }

    /** "by the KEYS as they are": what came by others is not had any more. */
    private static void gainsNoMore() {
        RightsHouse x = new RightsHouse();
        x.key(0, 1, 1);
        x.key(1, 0, 12);
        x.key(1, 2, 3);
        x.key(2, 3, 8);
        DUE.is("some GAINS", x.gain(-1, 0), 8);
        DUE.is("0 has them on itself", x.ever(0, 0, 12), 1);
        x.key(0, 1, 0);
        DUE.is("fewer GAINS", x.gain(-1, 0), 3);
        DUE.is("0 has none on itself", x.ever(0, 0, 4), NONE);
        x.key(1, 2, 0);
        DUE.is("no GAINS", x.gain(-1, 0), 0);
        DUE.is("none to tell of", x.gain(0, 0), BAD);
        for (int a = 0; a < 12; a++) {
            for (int b = 0; b < 12; b++) {
                int due = a == 1 && b == 0 || a == 2 && b == 3 ? 0 : NONE;
                DUE.is("ever " + a + " " + b, x.ever(a, b, a == 1 ? 12 : 8), due);
            }
        }
    }

    /** Keys by which each of the four bits comes to each pair apart from the others. */
    private static void mostGains() {
        int[][] keys = {
            {0, 3, 4}, {0, 4, 1}, {0, 7, 1}, {0, 8, 8}, {0, 9, 4}, {0, 11, 4}, {1, 2, 2}, {1, 3, 2}, {1, 4, 2}, {1, 5, 2},
            {1, 9, 2}, {2, 8, 2}, {2, 11, 2}, {3, 0, 2}, {3, 6, 2}, {3, 7, 2}, {3, 10, 2}, {4, 1, 2}, {4, 2, 1}, {4, 5, 4},
            {5, 3, 1}, {5, 10, 1}, {5, 11, 1}, {6, 1, 1}, {6, 5, 8}, {6, 7, 4}, {7, 0, 8}, {7, 8, 4}, {8, 0, 4}, {8, 2, 4},
            {8, 3, 8}, {8, 4, 4}, {8, 6, 8}, {8, 9, 8}, {8, 10, 8}, {9, 1, 8}, {9, 2, 8}, {9, 4, 8}, {9, 7, 8}, {9, 10, 4},
            {9, 11, 8}, {10, 0, 1}, {10, 1, 4}, {10, 5, 1}, {10, 6, 4}, {11, 6, 1}, {11, 8, 1}, {11, 9, 1}};
        RightsHouse x = new RightsHouse();
        RightsHouse y = new RightsHouse();
        for (int[] key : keys) {
            x.key(key[0], key[1], key[2]);
            y.key(key[0], key[1], key[2]);
        }
        DUE.is("all but those that were there", x.gain(-1, 0), 12 * 12 * 4 - keys.length);
        int bits = 0;
        for (int i = 0; i < 264; i++) {
            bits += Integer.bitCount(x.gain(i, 2));
            bits += Integer.bitCount(y.gain(264 + i, 2));
        }
        DUE.is("one bit each", bits, 528);
        DUE.is("no GAIN 528", x.gain(528, 0), BAD);
        for (int a = 0; a < 12; a++) {
            DUE.is("all on itself, " + a, x.ever(a, a, 15) > 0 ? 1 : 0, 1);
            DUE.is("all on the next one, " + a, x.ever(a, (a + 1) % 12, 15) > 0 ? 1 : 0, 1);
        }
        int last = x.gain(527, 0) * 12 + x.gain(527, 1);
        DUE.is("with the last one", x.ever(last / 12, last % 12, x.gain(527, 2)), 528);
    }

    /** With i = -1 no GAIN is named, so what does not count. */
    private static void howManyGains() {
        int[] whats = {-1, 0, 2, 3, 99, Integer.MIN_VALUE, Integer.MAX_VALUE};
        RightsHouse x = new RightsHouse();
        for (int what : whats) {
            DUE.is("no GAINS, what " + what, x.gain(-1, what), 0);
        }
        DUE.is("none to tell of", x.gain(0, 0), BAD);
        DUE.is("nor with what 3", x.gain(0, 3), BAD);
        x.key(2, 1, 1);
        x.key(1, 0, 4);
        x.key(1, 2, 2);
        for (int what : whats) {
            DUE.is("two GAINS, what " + what, x.gain(-1, what), 2);
            DUE.is("gain -2, what " + what, x.gain(-2, what), BAD);
            DUE.is("gain 2, what " + what, x.gain(2, what), BAD);
        }
    }

    private static void badKeys() {
        RightsHouse x = new RightsHouse();
        DUE.is("key the same", x.key(3, 3, 1), BAD);
        DUE.is("key 12", x.key(12, 3, 1), BAD);
        DUE.is("key on -1", x.key(3, -1, 1), BAD);
        DUE.is("key 16", x.key(3, 4, 16), BAD);
        DUE.is("key -1", x.key(3, 4, -1), BAD);
        DUE.is("key 15", x.key(3, 4, 15), 0);
        DUE.is("ever 0", x.ever(3, 4, 0), BAD);
        DUE.is("ever 16", x.ever(3, 4, 16), BAD);
        DUE.is("ever 12", x.ever(12, 4, 1), BAD);
        DUE.is("ever on 12", x.ever(4, 12, 1), BAD);
    }

    /** Rounds against the words of the document, over random keys. */
    private static void allKeys() {
        Random random = new Random(7);
        for (int run = 0; run < 40; run++) {
            RightsHouse x = new RightsHouse();
            int[][] had = new int[12][12];
            for (int i = 0; i < 5 + random.nextInt(15); i++) {
                int a = random.nextInt(12);
                int b = (a + 1 + random.nextInt(11)) % 12;
                had[a][b] = random.nextInt(16);
                x.key(a, b, had[a][b]);
            }
            int gains = 0;
            boolean comes = true;
            while (comes) {
                comes = false;
                for (int i = 0; i < 12 * 12 * 12 * 2; i++) {
                    int a = i / 288;
                    int b = i / 24 % 12;
                    int z = i / 2 % 12;
                    int from = i % 2 == 0 ? b : a;
                    int to = i % 2 == 0 ? a : b;
                    int coming = (had[a][b] & (i % 2 == 0 ? 1 : 2)) == 0 ? 0 : had[from][z] & ~had[to][z];
                    if (coming != 0) {
                        comes = true;
                        had[to][z] |= coming;
                        DUE.is("gain " + gains + " in run " + run, x.gain(gains, 0) * 10000 + x.gain(gains, 1) * 100 + x.gain(gains, 2),
                                to * 10000 + z * 100 + coming);
                        gains++;
                    }
                }
            }
            DUE.is("gains in run " + run, x.gain(-1, 2), gains);
            DUE.is("ever in run " + run, x.ever(0, 1, 15) == NONE ? 0 : 1, had[0][1] == 15 ? 1 : 0);
        }
    }
}
