import java.util.Random;

/** Promises 43 to 51: work, step, tie, fill, filled, next, perform, needed, tries. */
final class WorksTest {
    private static final Due DUE = new Due("WorksTest");
    private static final int BAD = RightsHouse.BAD, NO = RightsHouse.NO, FULL = RightsHouse.FULL, NONE = RightsHouse.NONE;

    public static void main(String[] args) {
        counts();
        fills();
        triesOfGoingBack();
        ties();
        next();
        performs();
        doneTies();
        tiesAheadOfTries();
        worksApart();
        mostTries();
        needed();
        byCounting();
        DUE.end();
    }

    /** Persons 0 to persons - 1, all in group 0 until 50; groups 0 and 1. */
    private static RightsHouse house(int persons, int steps) {
        RightsHouse x = new RightsHouse();
        x.group();
        x.group();
        for (int p = 0; p < persons; p++) {
            x.person();
            x.put(p, 0, 0, 50);
        }
        x.work();
        for (int i = 0; i < steps; i++) {
            x.step(0, 0);
        }
        return x;
    }

    private static void counts() {
        RightsHouse x = new RightsHouse();
        x.group();
        for (int i = 0; i < 4; i++) {
            DUE.is("work " + i, x.work(), i);
        }
        DUE.is("work 4", x.work(), FULL);
        for (int i = 0; i < 8; i++) {
            DUE.is("step " + i, x.step(1, 0), i);
        }
        DUE.is("step 8", x.step(1, 0), FULL);
        DUE.is("step of another", x.step(2, 0), 0);
        DUE.is("step of none", x.step(4, 0), BAD);
        DUE.is("step of no group", x.step(1, 1), BAD);
        DUE.is("tie of none", x.tie(4, 0, 0, 1), BAD);
        DUE.is("tie kind 3", x.tie(1, 3, 0, 1), BAD);
        DUE.is("tie kind -1", x.tie(1, -1, 0, 1), BAD);
        DUE.is("tie no step", x.tie(1, 0, 0, 8), BAD);
        DUE.is("tie no step of that work", x.tie(2, 0, 0, 1), BAD);
        DUE.is("tie -1", x.tie(1, 1, -1, 1), BAD);
        DUE.is("tie the same", x.tie(1, 0, 3, 3), BAD);
        DUE.is("MOST 0", x.tie(1, 2, 0, 1), BAD);
        DUE.is("MOST 9", x.tie(1, 2, 9, 1), BAD);
        DUE.is("MOST 8, j does not count", x.tie(1, 2, 8, 8), 0);
        DUE.is("MOST 1, j does not count", x.tie(1, 2, 1, -5), 1);
        for (int i = 2; i < 12; i++) {
            DUE.is("tie " + i, x.tie(1, i % 2, 0, 1), i);
        }
        DUE.is("tie 12", x.tie(1, 0, 0, 1), FULL);
        DUE.is("BAD ahead of FULL", x.tie(1, 0, 0, 0), BAD);
        DUE.is("tie of another", x.tie(2, 2, 1, 0), 0);
    }

    private static void fills() {
        RightsHouse x = house(2, 0);
        DUE.is("without steps", x.fill(0, 1), 1);
        DUE.is("without tries", x.tries(), 0);
        x.step(0, 0);
        DUE.is("filled of a later step", x.filled(0, 0), NONE);
        DUE.is("fill", x.fill(0, 1), 1);
        DUE.is("filled", x.filled(0, 0), 0);
        DUE.is("tries", x.tries(), 1);
        x.step(0, 1);
        DUE.is("nobody of the group", x.fill(0, 9), 0);
        DUE.is("tried all", x.tries(), 2);
        DUE.is("the one kept stays", x.filled(0, 0), 0);
        DUE.is("and has no step 1", x.filled(0, 1), NONE);
        x.put(1, 1, 0, 50);
        DUE.is("one try", x.fill(0, 1), 2);
        DUE.is("tries of 2", x.tries(), 1);
        DUE.is("two tries", x.fill(0, 2), 1);
        DUE.is("filled 1", x.filled(0, 1), 1);
        DUE.is("fill no work", x.fill(1, 1), BAD);
        DUE.is("fill 0 tries", x.fill(0, 0), BAD);
        DUE.is("fill 20001 tries", x.fill(0, 20001), BAD);
        DUE.is("fill 20000 tries", x.fill(0, 20000), 1);
        DUE.is("filled no work", x.filled(1, 0), BAD);
        DUE.is("filled no step", x.filled(0, 2), BAD);
        DUE.is("filled -1", x.filled(0, -1), BAD);
        x.tick(50);
        DUE.is("NOW", x.fill(0, 9), 0);
        DUE.is("nobody to try", x.tries(), 0);
    }

    private static void triesOfGoingBack() {
        RightsHouse x = house(3, 3);
        x.put(0, 1, 0, 50);
        x.step(0, 1);
        for (int i = 0; i < 3; i++) {
            x.tie(0, 0, i, 3);
        }
        // 0 0 0 [0], 0 0 1 [0], 0 0 2 [0], 0 1 .. as far as 1 1 1 [0].
        DUE.is("found late", x.fill(0, 20000), 1);
        DUE.is("filled", x.filled(0, 0) * 100 + x.filled(0, 1) * 10 + x.filled(0, 2), 111);
        int tries = x.tries();
        DUE.is("one try less", x.fill(0, tries - 1), 2);
        DUE.is("just so many", x.fill(0, tries), 1);
        // Step 0 is set 2 times, step 1 3 and 2 times, step 2 9, 3 and 2 times, step 3 as often as step 2.
        DUE.is("how many", tries, 2 + 5 + 14 + 14);
    }

    private static void ties() {
        RightsHouse x = house(3, 3);
        x.tie(0, 1, 0, 2);
        x.tie(0, 0, 0, 1);
        DUE.is("SAME and UNLIKE", x.fill(0, 99), 1);
        DUE.is("step 0", x.filled(0, 0), 0);
        DUE.is("step 1", x.filled(0, 1), 1);
        DUE.is("step 2", x.filled(0, 2), 0);
        DUE.is("tries: 0, 0 1, 0", x.tries(), 4);
        x.tie(0, 2, 1, 0);
        DUE.is("MOST 1", x.fill(0, 99), 0);
        RightsHouse y = house(3, 3);
        y.tie(0, 2, 1, 0);
        DUE.is("all unlike", y.fill(0, 99), 1);
        DUE.is("012", y.filled(0, 0) * 100 + y.filled(0, 1) * 10 + y.filled(0, 2), 12);
        y.step(0, 0);
        DUE.is("four steps, three persons", y.fill(0, 99), 0);
        RightsHouse z = house(2, 8);
        z.tie(0, 2, 4, 0);
        DUE.is("MOST 4", z.fill(0, 99), 1);
        DUE.is("the fifth", z.filled(0, 4), 1);
        DUE.is("a TRY for each that does not hold, too", z.tries(), 12);
    }

    private static void next() {
        RightsHouse x = house(3, 2);
        x.put(2, 1, 0, 50);
        x.step(0, 1);
        x.tie(0, 0, 0, 2);
        DUE.is("next", x.next(0, 0, 1, 9), 1);
        DUE.is("tries of the others", x.tries(), 2);
        DUE.is("next against a tie", x.next(0, 0, 2, 9), 0);
        DUE.is("who does not belong", x.next(0, 2, 0, 9), 0);
        DUE.is("without tries", x.tries(), 0);
        DUE.is("too many tries", x.next(0, 0, 1, 1), 2);
        DUE.is("nothing is kept", x.filled(0, 0), NONE);
        DUE.is("nothing is done", x.next(0, 0, 0, 9), 1);
        DUE.is("no work", x.next(1, 0, 0, 9), BAD);
        DUE.is("no step", x.next(0, 3, 0, 9), BAD);
        DUE.is("no person", x.next(0, 0, 3, 9), BAD);
        DUE.is("no tries", x.next(0, 0, 0, 0), BAD);
        DUE.is("too many told", x.next(0, 0, 0, 20001), BAD);
        DUE.is("refused calls leave tries()", x.tries(), 2);
    }

    private static void performs() {
        RightsHouse x = house(3, 2);
        x.put(2, 1, 0, 50);
        x.step(0, 1);
        x.tie(0, 0, 0, 2);
        DUE.is("perform what can't be", x.perform(0, 0, 2, 9), 0);
        DUE.is("perform with too few tries", x.perform(0, 0, 1, 1), 2);
        DUE.is("perform", x.perform(0, 0, 1, 9), 1);
        DUE.is("perform again", x.perform(0, 0, 1, 9), NO);
        DUE.is("next of what is DONE", x.next(0, 0, 1, 9), NO);
        DUE.is("BAD ahead of NO", x.next(0, 0, 3, 9), BAD);
        DUE.is("NO leaves tries()", x.tries(), 2);
        DUE.is("perform keeps no FILLING", x.filled(0, 0), NONE);
        x.tick(50);
        x.put(0, 0, 50, 60);
        x.put(0, 1, 50, 60);
        DUE.is("who did it need not belong any more", x.fill(0, 9), 1);
        DUE.is("who did it", x.filled(0, 0), 1);
        DUE.is("the others", x.filled(0, 1) * 10 + x.filled(0, 2), 0);
        DUE.is("tries without DONE ones", x.tries(), 2);
        DUE.is("step 1", x.perform(0, 1, 0, 9), 1);
        DUE.is("step 2", x.perform(0, 2, 0, 9), 1);
        DUE.is("the last one needs no tries", x.tries(), 0);
        DUE.is("all DONE", x.fill(0, 1), 1);
        DUE.is("filled as DONE", x.filled(0, 2), 0);
    }

    /** A TIE that comes later may not hold with those DONE. */
    private static void doneTies() {
        RightsHouse x = house(3, 3);
        x.perform(0, 0, 0, 9);
        x.perform(0, 1, 1, 9);
        x.tie(0, 1, 0, 1);
        DUE.is("fill", x.fill(0, 9), 0);
        DUE.is("tries", x.tries(), 3);
        DUE.is("next", x.next(0, 2, 0, 9), 0);
        DUE.is("without tries", x.tries(), 0);
        RightsHouse y = house(3, 2);
        y.perform(0, 0, 0, 9);
        y.perform(0, 1, 1, 9);
        y.tie(0, 1, 0, 1);
        DUE.is("all DONE, a TIE does not hold", y.fill(0, 9), 0);
        DUE.is("nobody to try", y.tries(), 0);
    }

    /** 48: "0 (also, without TRIES, if the PERSON does not BELONG to its GROUP, or a TIE does not hold)". */
    private static void tiesAheadOfTries() {
        RightsHouse x = house(3, 4);
        x.perform(0, 0, 0, 99);
        x.tie(0, 0, 0, 1);
        x.tie(0, 2, 2, 0);
        DUE.is("a FILLING", x.fill(0, 99), 1);
        DUE.is("against UNLIKE", x.next(0, 1, 0, 99), 0);
        DUE.is("without TRIES", x.tries(), 0);
        DUE.is("it holds", x.next(0, 1, 1, 99), 1);
        DUE.is("with TRIES", x.tries() > 0 ? 1 : 0, 1);
        DUE.is("done", x.perform(0, 2, 0, 99), 1);
        DUE.is("against MOST", x.next(0, 3, 0, 99), 0);
        DUE.is("without TRIES, too", x.tries(), 0);
        DUE.is("perform likewise", x.perform(0, 3, 0, 99), 0);
        DUE.is("without TRIES again", x.tries(), 0);
        DUE.is("not done", x.next(0, 3, 1, 99), 1);
        x.tick(50);
        DUE.is("nobody BELONGS", x.next(0, 3, 1, 99), 0);
        DUE.is("without TRIES once more", x.tries(), 0);
    }

    /** "WORKS (4) of STEPS (8 each)": each has steps, ties, what is DONE and what was filled of its own. */
    private static void worksApart() {
        RightsHouse x = house(4, 0);
        for (int w = 1; w < 4; w++) {
            x.work();
        }
        for (int w = 0; w < 4; w++) {
            for (int i = 0; i <= w; i++) {
                x.step(w, 0);
            }
            DUE.is("nothing filled of " + w, x.filled(w, w), NONE);
        }
        x.tie(3, 2, 1, 0);
        x.tie(1, 1, 0, 1);
        DUE.is("done in 2", x.perform(2, 1, 3, 9), 1);
        DUE.is("its TRIES", x.tries(), 2);
        DUE.is("fill 3", x.fill(3, 99), 1);
        for (int i = 0; i < 4; i++) {
            DUE.is("filled 3, " + i, x.filled(3, i), i);
            DUE.is("next 3, " + i, x.next(3, i, 0, 99), 1);
        }
        DUE.is("fill 0", x.fill(0, 99), 1);
        DUE.is("TRIES of 0", x.tries(), 1);
        DUE.is("fill 1", x.fill(1, 99), 1);
        DUE.is("TRIES of 1", x.tries(), 2);
        DUE.is("fill 2", x.fill(2, 99), 1);
        DUE.is("filled 2, done", x.filled(2, 1), 3);
        DUE.is("filled 2, not done", x.filled(2, 2), 0);
        DUE.is("filled 3, as it was", x.filled(3, 3), 3);
        DUE.is("needed in 2", x.needed(2, 3, 99), 1);
        DUE.is("needed in 3", x.needed(3, 3, 999), 1);
        DUE.is("needed in 1", x.needed(1, 3, 99), 0);
        DUE.is("done in 3", x.perform(3, 3, 0, 99), 1);
        DUE.is("not in 1", x.next(1, 1, 1, 99), 1);
        DUE.is("nor in 0", x.next(0, 0, 1, 99), 1);
        DUE.is("fill 3 anew", x.fill(3, 99), 1);
        DUE.is("1 2 3 0", x.filled(3, 0) * 1000 + x.filled(3, 1) * 100 + x.filled(3, 2) * 10 + x.filled(3, 3), 1230);
    }

    /** 46: "2: it would be more TRIES than told (1 .. 20000)". */
    private static void mostTries() {
        RightsHouse x = house(20, 8);
        x.tie(0, 0, 6, 7);
        x.tie(0, 1, 6, 7);
        DUE.is("20000 and more", x.fill(0, 20000), 2);
        DUE.is("all that were told", x.tries(), 20000);
        DUE.is("nothing is kept", x.filled(0, 0), NONE);
        DUE.is("next", x.next(0, 7, 19, 20000), 2);
        DUE.is("all of next", x.tries(), 20000);
        DUE.is("perform", x.perform(0, 7, 19, 19999), 2);
        DUE.is("all of perform", x.tries(), 19999);
        DUE.is("needed", x.needed(0, 0, 1), 2);
        DUE.is("all of needed", x.tries(), 1);
        DUE.is("not done", x.next(0, 7, 19, 1), 2);
        // Three steps left: 20 and 20 times 20 and 20 times 20 times 20 that do not hold.
        RightsHouse y = house(20, 3);
        y.tie(0, 0, 1, 2);
        y.tie(0, 1, 1, 2);
        DUE.is("one less", y.fill(0, 8419), 2);
        DUE.is("just so many", y.fill(0, 8420), 0);
        DUE.is("all of them", y.tries(), 8420);
        RightsHouse z = house(1, 1);
        DUE.is("the least number of TRIES", z.fill(0, 1), 1);
        DUE.is("one", z.tries(), 1);
        DUE.is("none was needed", z.next(0, 0, 0, 1), 1);
        DUE.is("none", z.tries(), 0);
    }

    private static void needed() {
        RightsHouse x = house(2, 2);
        x.put(1, 1, 0, 50);
        x.step(0, 1);
        DUE.is("needed", x.needed(0, 1, 9), 1);
        DUE.is("tries of the second search", x.tries(), 2);
        DUE.is("not needed", x.needed(0, 0, 9), 0);
        DUE.is("tries of the search without 0", x.tries(), 3);
        DUE.is("too many tries", x.needed(0, 0, 2), 2);
        DUE.is("nothing is kept", x.filled(0, 0), NONE);
        x.perform(0, 0, 0, 9);
        DUE.is("DONE ones count", x.needed(0, 0, 9), 1);
        DUE.is("without a second search", x.tries(), 0);
        x.tie(0, 0, 0, 1);
        x.tie(0, 0, 1, 2);
        DUE.is("no FILLING", x.needed(0, 0, 9), 0);
        DUE.is("tries of the first search", x.tries(), 3);
        DUE.is("no work", x.needed(1, 0, 9), BAD);
        DUE.is("no person", x.needed(0, 2, 9), BAD);
        DUE.is("no tries", x.needed(0, 0, 0), BAD);
        DUE.is("too many told", x.needed(0, 0, 20001), BAD);
        RightsHouse two = house(2, 8);
        two.work();
        two.step(1, 0);
        two.perform(1, 0, 0, 9);
        DUE.is("DONE in another WORK", two.needed(0, 0, 99), 0);
        RightsHouse y = house(4, 2);
        y.put(3, 1, 0, 50);
        y.step(0, 1);
        y.tie(0, 2, 1, 0);
        DUE.is("the second search is too long", y.needed(0, 3, 11), 2);
        DUE.is("the second search ends", y.needed(0, 3, 12), 1);
        DUE.is("its tries", y.tries(), 12);
        RightsHouse z = house(3, 2);
        z.put(2, 1, 0, 50);
        z.step(0, 1);
        z.tie(0, 0, 0, 1);
        DUE.is("first search in 4 tries", z.fill(0, 4), 1);
        DUE.is("second search over 4 tries", z.needed(0, 2, 4), 2);
        DUE.is("its tries", z.tries(), 4);
    }

    /** Answers and tries against a search written the plain way. */
    private static void byCounting() {
        Random random = new Random(3);
        for (int run = 0; run < 150; run++) {
            int steps = 1 + random.nextInt(5);
            RightsHouse x = new RightsHouse();
            x.work();
            for (int i = 0; i < 4; i++) {
                x.person();
                x.group();
            }
            boolean[][] in = new boolean[4][4];
            for (int i = 0; i < 9; i++) {
                int p = random.nextInt(4);
                int g = random.nextInt(4);
                in[p][g] = true;
                x.put(p, g, 0, 9);
            }
            int[] group = new int[steps];
            for (int i = 0; i < steps; i++) {
                group[i] = random.nextInt(4);
                x.step(0, group[i]);
            }
            int[][] ties = new int[random.nextInt(5)][];
            for (int n = 0; n < ties.length; n++) {
                int kind = steps < 2 ? 2 : random.nextInt(3);
                int i = kind == 2 ? 1 + random.nextInt(3) : random.nextInt(steps);
                int j = steps < 2 ? 0 : (i + 1 + random.nextInt(steps - 1)) % steps;
                ties[n] = new int[] {kind, i, j};
                x.tie(0, kind, i, j);
            }
            tries = 0;
            int limit = 1 + random.nextInt(40);
            int[] set = new int[steps];
            int due = plain(0, set, in, group, ties, limit);
            DUE.is("fill in run " + run, x.fill(0, limit), due);
            DUE.is("tries in run " + run, x.tries(), tries);
            for (int i = 0; i < steps; i++) {
                DUE.is("filled " + i + " in run " + run, x.filled(0, i), due == 1 ? set[i] : NONE);
            }
        }
    }

    private static int tries;

    private static int plain(int i, int[] set, boolean[][] in, int[] group, int[][] ties, int limit) {
        if (i == set.length) {
            return 1;
        }
        for (int p = 0; p < 4; p++) {
            if (!in[p][group[i]]) {
                continue;
            }
            if (tries == limit) {
                return 2;
            }
            tries++;
            set[i] = p;
            int found = tiesHold(i, set, ties) ? plain(i + 1, set, in, group, ties, limit) : 0;
            if (found != 0) {
                return found;
            }
        }
        return 0;
    }

    private static boolean tiesHold(int last, int[] set, int[][] ties) {
        for (int[] tie : ties) {
            if (tie[0] == 2) {
                int has = 0;
                for (int i = 0; i <= last; i++) {
                    has += set[i] == set[last] ? 1 : 0;
                }
                if (has > tie[1]) {
                    return false;
                }
            } else if (tie[1] <= last && tie[2] <= last && (set[tie[1]] == set[tie[2]]) != (tie[0] == 1)) {
                return false;
            }
        }
        return true;
    }
}
