import java.util.Random;

/** Promises 5 to 14: person, group, put, back, belongs, rowOf, feature, item, itemOf, copy. */
final class WhoTest {
    private static final Due DUE = new Due("WhoTest");
    private static final int BAD = RightsHouse.BAD, NO = RightsHouse.NO, FULL = RightsHouse.FULL, NONE = RightsHouse.NONE;

    public static void main(String[] args) {
        counts();
        rows();
        badRows();
        rings();
        fullRows();
        longestWay();
        manyPersons();
        belongsAsWalked();
        features();
        manyFeatures();
        newFeatures();
        itemsLikeRefusals();
        sorts();
        copies();
        DUE.end();
    }

    private static void counts() {
        RightsHouse x = new RightsHouse();
        for (int i = 0; i < 20; i++) {
            DUE.is("person " + i, x.person(), i);
        }
        DUE.is("person 20", x.person(), FULL);
        for (int i = 0; i < 16; i++) {
            DUE.is("group " + i, x.group(), i);
        }
        DUE.is("group 16", x.group(), FULL);
    }

    private static void rows() {
        RightsHouse x = Due.house(2, 3);
        x.tick(5);
        DUE.is("put", x.put(0, 0, 10, 20), 0);
        DUE.is("put a group", x.put(100, 1, 12, 18), 1);
        DUE.is("row MEMBER", x.rowOf(1, 0), 100);
        DUE.is("row GROUP", x.rowOf(1, 1), 1);
        DUE.is("row from", x.rowOf(1, 2), 12);
        DUE.is("row until", x.rowOf(1, 3), 18);
        DUE.is("row KNOWN from", x.rowOf(1, 4), 5);
        DUE.is("row KNOWN until", x.rowOf(1, 5), NONE);
        DUE.is("rowOf what 6", x.rowOf(1, 6), BAD);
        DUE.is("rowOf what -1", x.rowOf(1, -1), BAD);
        DUE.is("rowOf none", x.rowOf(2, 0), BAD);
        DUE.is("belongs ahead of from", x.belongs(0, 0, 9, 5), 0);
        DUE.is("belongs at from", x.belongs(0, 0, 10, 5), 1);
        DUE.is("belongs at the last", x.belongs(0, 0, 19, 5), 1);
        DUE.is("belongs at until", x.belongs(0, 0, 20, 5), 0);
        DUE.is("belongs ahead of KNOWN", x.belongs(0, 0, 10, 4), 0);
        DUE.is("belongs, KNOWN later", x.belongs(0, 0, 10, 1000000000), 1);
        DUE.is("belongs by two rows", x.belongs(0, 1, 12, 5), 1);
        DUE.is("belongs, second row over", x.belongs(0, 1, 18, 5), 0);
        DUE.is("belongs to no more", x.belongs(0, 2, 12, 5), 0);
        DUE.is("nobody else belongs", x.belongs(1, 0, 12, 5), 0);
        x.tick(2);
        DUE.is("back", x.back(0), 1);
        DUE.is("back again", x.back(0), NO);
        DUE.is("back none", x.back(2), BAD);
        DUE.is("back -1", x.back(-1), BAD);
        DUE.is("row KNOWN until", x.rowOf(0, 5), 7);
        DUE.is("belongs as KNOWN at 6", x.belongs(0, 1, 12, 6), 1);
        DUE.is("belongs as KNOWN at 7", x.belongs(0, 1, 12, 7), 0);
        DUE.is("put and taken back at once", x.put(1, 2, 0, 9), 2);
        x.back(2);
        DUE.is("never KNOWN", x.belongs(1, 2, 3, 7), 0);
    }

    private static void badRows() {
        RightsHouse x = Due.house(1, 1);
        DUE.is("put no person", x.put(1, 0, 0, 1), BAD);
        DUE.is("put -1", x.put(-1, 0, 0, 1), BAD);
        DUE.is("put no group as member", x.put(101, 0, 0, 1), BAD);
        DUE.is("put 99", x.put(99, 0, 0, 1), BAD);
        DUE.is("put into none", x.put(0, 1, 0, 1), BAD);
        DUE.is("put from below 0", x.put(0, 0, -1, 1), BAD);
        DUE.is("put until beyond", x.put(0, 0, 0, 1000000001), BAD);
        DUE.is("put until not above", x.put(0, 0, 5, 5), BAD);
        DUE.is("put until below", x.put(0, 0, 5, 4), BAD);
        DUE.is("put at the edges", x.put(0, 0, 0, 1000000000), 0);
        DUE.is("belongs no person", x.belongs(1, 0, 0, 0), BAD);
        DUE.is("belongs no group", x.belongs(0, 1, 0, 0), BAD);
        DUE.is("belongs a group", x.belongs(100, 0, 0, 0), BAD);
        DUE.is("belongs t below", x.belongs(0, 0, -1, 0), BAD);
        DUE.is("belongs t beyond", x.belongs(0, 0, 1000000001, 0), BAD);
        DUE.is("belongs known below", x.belongs(0, 0, 0, -1), BAD);
        DUE.is("belongs known beyond", x.belongs(0, 0, 0, 1000000001), BAD);
        DUE.is("belongs at the last moment", x.belongs(0, 0, 1000000000, 0), 0);
    }

    private static void rings() {
        RightsHouse x = Due.house(1, 3);
        DUE.is("a ring of one", x.put(100, 0, 0, 1), NO);
        x.put(100, 1, 0, 1);
        x.put(101, 2, 5, 6);
        DUE.is("a ring, whatever the moments", x.put(102, 0, 8, 9), NO);
        DUE.is("a ring of two", x.put(101, 0, 8, 9), NO);
        DUE.is("BAD ahead of NO", x.put(102, 0, 9, 9), BAD);
        DUE.is("two ways are no ring", x.put(100, 2, 8, 9), 2);
        x.back(1);
        DUE.is("still by the other way", x.put(102, 0, 8, 9), NO);
        x.back(2);
        DUE.is("with a row taken back it is none", x.put(102, 0, 8, 9), 3);
    }

    private static void fullRows() {
        RightsHouse x = Due.house(1, 2);
        x.put(100, 1, 0, 9);
        for (int i = 1; i < 200; i++) {
            DUE.is("row " + i, x.put(0, 0, 0, 9), i);
        }
        DUE.is("row 200", x.put(0, 0, 0, 9), FULL);
        x.back(5);
        DUE.is("rows taken back count", x.put(0, 0, 0, 9), FULL);
        DUE.is("NO ahead of FULL", x.put(101, 0, 0, 9), NO);
        DUE.is("BAD ahead of NO, FULL", x.put(101, 0, 9, 9), BAD);
    }

    /** "when a row of ROWS .. leads from the PERSON to the GROUP", through all 16 of them; "a ring" of all 16. */
    private static void longestWay() {
        RightsHouse x = Due.house(1, 16);
        for (int g = 14; g >= 0; g--) {
            x.put(100 + g, g + 1, 14 - g, 100 + g);
        }
        x.put(0, 0, 0, 1000);
        DUE.is("all the way", x.belongs(0, 15, 50, 0), 1);
        DUE.is("at the first moment of all", x.belongs(0, 15, 14, 0), 1);
        DUE.is("ahead of it", x.belongs(0, 15, 13, 0), 0);
        DUE.is("at the last moment of all", x.belongs(0, 15, 99, 0), 1);
        DUE.is("behind it", x.belongs(0, 15, 100, 0), 0);
        DUE.is("still by the later ones", x.belongs(0, 0, 100, 0), 1);
        for (int g = 0; g < 15; g++) {
            DUE.is("a ring from 15 to " + g, x.put(115, g, 0, 9), NO);
            DUE.is("a ring of " + (g + 1) + " alone", x.put(101 + g, g + 1, 0, 9), NO);
        }
        x.tick(3);
        DUE.is("one taken back in the middle", x.back(7), 1);
        DUE.is("not all the way", x.belongs(0, 15, 50, 3), 0);
        DUE.is("as KNOWN until then", x.belongs(0, 15, 50, 2), 1);
        DUE.is("no ring across it", x.put(115, 0, 0, 9), 16);
        DUE.is("but on its side", x.put(115, 8, 0, 9), NO);
    }

    /** Persons are no groups, whatever their numbers. */
    private static void manyPersons() {
        RightsHouse x = Due.house(20, 16);
        for (int p = 0; p < 20; p++) {
            DUE.is("put " + p, x.put(p, p % 16, 0, 9), p);
        }
        x.put(103, 12, 0, 9);
        for (int p = 0; p < 20; p++) {
            DUE.is("no ring of " + p, x.put(p, (p + 12) % 16, 50, 60), 21 + p);
        }
        for (int p = 0; p < 20; p++) {
            for (int g = 0; g < 16; g++) {
                boolean is = g == p % 16 || p % 16 == 3 && g == 12;
                DUE.is("belongs " + p + " " + g, x.belongs(p, g, 0, 0), is ? 1 : 0);
            }
        }
    }

    /** The answers of belongs() against a walk over the rows that were put. */
    private static void belongsAsWalked() {
        Random random = new Random(5);
        for (int run = 0; run < 40; run++) {
            RightsHouse x = Due.house(4, 6);
            int rows = 0;
            for (int i = 0; i < 30; i++) {
                x.tick(random.nextInt(3));
                int member = random.nextBoolean() ? random.nextInt(4) : 100 + random.nextInt(6);
                int from = random.nextInt(20);
                if (x.put(member, random.nextInt(6), from, from + 1 + random.nextInt(20)) >= 0) {
                    rows++;
                }
                if (rows > 0 && random.nextInt(4) == 0) {
                    x.back(random.nextInt(rows));
                }
            }
            int[][] put = new int[rows][6];
            for (int i = 0; i < rows * 6; i++) {
                put[i / 6][i % 6] = x.rowOf(i / 6, i % 6);
            }
            for (int i = 0; i < 60; i++) {
                int p = random.nextInt(4);
                int g = random.nextInt(6);
                int t = random.nextInt(40);
                int known = random.nextInt(50);
                DUE.is("belongs(" + p + ", " + g + ", " + t + ", " + known + ") in run " + run,
                        x.belongs(p, g, t, known), leads(put, p, g, t, known, 0) ? 1 : 0);
            }
        }
    }

    private static boolean leads(int[][] rows, int member, int group, int t, int known, int depth) {
        for (int[] row : rows) {
            boolean stands = row[2] <= t && t < row[3] && row[4] <= known && (row[5] == NONE || known < row[5]);
            if (stands && row[0] == member && depth < 8
                    && (row[1] == group || leads(rows, 100 + row[1], group, t, known, depth + 1))) {
                return true;
            }
        }
        return false;
    }

    private static void features() {
        RightsHouse x = Due.house(1, 1);
        DUE.is("thing", x.thing(0, NONE), 1);
        DUE.is("feature", x.feature(0, 0, 1, 20), 20);
        DUE.is("feature of a thing", x.feature(101, 7, 1, 3), 3);
        DUE.is("feature of THING 0", x.feature(100, 7, 3, 0), 0);
        DUE.is("no item at first but 0", x.itemOf(101, 7, 1, 2), 0);
        DUE.is("feature 8", x.feature(0, 8, 1, 1), BAD);
        DUE.is("feature -1", x.feature(0, -1, 1, 1), BAD);
        DUE.is("feature of no person", x.feature(1, 0, 1, 1), BAD);
        DUE.is("feature of no thing", x.feature(102, 0, 1, 1), BAD);
        DUE.is("feature of -1", x.feature(-1, 0, 1, 1), BAD);
        DUE.is("feature sort 4", x.feature(0, 0, 4, 1), BAD);
        DUE.is("feature sort -1", x.feature(0, 0, -1, 1), BAD);
        DUE.is("feature n 21", x.feature(0, 0, 1, 21), BAD);
        DUE.is("feature n -1", x.feature(0, 0, 1, -1), -13);
        DUE.is("BAD ahead of a FAILURE", x.feature(0, 0, 4, -1), BAD);
        DUE.is("what fails changes nothing", x.itemOf(0, 0, 1, 19), 0);
        x.feature(0, 1, 1, 1);
        x.item(0, 1, 0, 78);
        x.item(0, 0, 0, 76);
        x.item(0, 0, 4, 77);
        DUE.is("feature anew", x.feature(0, 0, 1, 10), 10);
        DUE.is("all 0 again, the first", x.itemOf(0, 0, 1, 0), 0);
        DUE.is("all 0 again", x.itemOf(0, 0, 1, 4), 0);
        DUE.is("the next one stays", x.itemOf(0, 1, 1, 0), 78);
        DUE.is("NOTHING, n does not count", x.feature(0, 0, 0, 21), 0);
        DUE.is("NOTHING, n below 0", x.feature(0, 0, 0, -5), 0);
        DUE.is("NOTHING is there", x.itemOf(0, 0, 1, 0), -11);
        x.drop(1);
        DUE.is("feature of a GONE thing", x.feature(101, 7, 1, 3), BAD);
        DUE.is("item of a GONE thing", x.item(101, 7, 1, 3), BAD);
        DUE.is("itemOf of a GONE thing", x.itemOf(101, 7, 1, 1), BAD);
        DUE.is("copy of a GONE thing", x.copy(101, 7, 0, 0, 0, 0, 0), BAD);
        DUE.is("copy to a GONE thing", x.copy(100, 7, 0, 101, 7, 0, 0), BAD);
    }

    /** Each bearer has features of its own. */
    private static void manyFeatures() {
        RightsHouse x = Due.house(20, 0);
        for (int i = 1; i < 40; i++) {
            x.thing(0, NONE);
        }
        int[] bearers = {0, 1, 18, 19, 100, 101, 138, 139};
        for (int i = 0; i < 64; i++) {
            x.feature(bearers[i / 8], i % 8, 1, 20);
            x.item(bearers[i / 8], i % 8, 0, i + 1000);
            x.item(bearers[i / 8], i % 8, 19, i);
        }
        for (int i = 0; i < 64; i++) {
            DUE.is("first item of " + bearers[i / 8] + ", " + i % 8, x.itemOf(bearers[i / 8], i % 8, 1, 0), i + 1000);
            DUE.is("last item of " + bearers[i / 8] + ", " + i % 8, x.itemOf(bearers[i / 8], i % 8, 1, 19), i);
        }
        DUE.is("me and it", x.asked(Due.policy(x, 0, "yes any r any if me.h[19] = 31 and it.a[19] = 56"), 19, 0, 39, 0), 1);
    }

    /** "hold NOTHING (at first), or a row of 0 to 20 ITEMS .. all 0 at first". */
    private static void newFeatures() {
        RightsHouse x = Due.house(1, 0);
        for (int f = 0; f < 8; f++) {
            DUE.is("NOTHING at first, " + f, x.itemOf(0, f, 1, 0), -11);
            DUE.is("NOTHING at first of a THING, " + f, x.itemOf(100, f, 3, 0), -11);
        }
        for (int sort = 1; sort <= 3; sort++) {
            DUE.is("no ITEMS of SORT " + sort, x.feature(0, sort, sort, 0), 0);
            DUE.is("no first one", x.itemOf(0, sort, sort, 0), -12);
            DUE.is("none to change", x.item(0, sort, 0, 5), -12);
            DUE.is("none to copy", x.copy(0, sort, 0, 0, sort, 0, 0), 0);
            DUE.is("one ITEM", x.feature(0, sort, sort, 1), 1);
            DUE.is("the first one", x.item(0, sort, 0, 5), 1);
            DUE.is("no second one", x.item(0, sort, 1, 5), -12);
            DUE.is("20 ITEMS", x.feature(0, sort, sort, 20), 20);
            for (int i = 0; i < 20; i++) {
                DUE.is("0 at first, " + i, x.itemOf(0, sort, sort, i), 0);
                x.item(0, sort, i, 7 + i);
            }
            DUE.is("no ITEM 20", x.itemOf(0, sort, sort, 20), -12);
            DUE.is("the same once more", x.feature(0, sort, sort, 20), 20);
            DUE.is("0 again", x.itemOf(0, sort, sort, 19), 0);
            DUE.is("21 ITEMS", x.feature(0, sort, sort, 21), BAD);
            DUE.is("NOTHING once more", x.feature(0, sort, 0, Integer.MIN_VALUE), 0);
            DUE.is("NOTHING is there", x.item(0, sort, 0, 5), -11);
        }
    }

    /** 13: "BAD (which it may be)", and what the others are. */
    private static void itemsLikeRefusals() {
        RightsHouse x = Due.house(1, 0);
        x.feature(0, 0, 1, 1);
        x.feature(0, 1, 2, 1);
        x.feature(0, 2, 3, 1);
        for (int v = -15; v <= 0; v++) {
            DUE.is("item " + v, x.item(0, 0, 0, v), 1);
            DUE.is("itemOf " + v, x.itemOf(0, 0, 1, 0), v);
            x.item(0, 2, 0, v);
            DUE.is("a MARK, " + v, x.itemOf(0, 2, 3, 0), v);
            x.item(0, 1, 0, v);
            DUE.is("no number, " + v, x.itemOf(0, 1, 2, 0), v == 0 ? 0 : 0x7ff8000000000000L);
        }
    }

    private static void sorts() {
        RightsHouse x = Due.house(1, 0);
        DUE.is("item of NOTHING", x.item(0, 0, 0, 1), -11);
        DUE.is("item of NOTHING, no place", x.item(0, 0, -1, 1), -11);
        x.feature(0, 0, 1, 2);
        x.feature(0, 1, 2, 2);
        x.feature(0, 2, 3, 2);
        DUE.is("item -1", x.item(0, 0, -1, 1), -12);
        DUE.is("item 2", x.item(0, 0, 2, 1), -12);
        DUE.is("item BAD", x.item(0, 8, 2, 1), BAD);
        DUE.is("item", x.item(0, 0, 1, Long.MIN_VALUE), 1);
        DUE.is("a WHOLE", x.itemOf(0, 0, 1, 1), Long.MIN_VALUE);
        x.item(0, 1, 0, Double.doubleToLongBits(-2.5));
        DUE.is("a REAL", x.itemOf(0, 1, 2, 0), Double.doubleToLongBits(-2.5));
        x.item(0, 1, 1, 0xfff0000000000001L);
        DUE.is("no number", x.itemOf(0, 1, 2, 1), 0x7ff8000000000000L);
        x.item(0, 1, 1, 0x7ff0000000000000L);
        DUE.is("endless", x.itemOf(0, 1, 2, 1), 0x7ff0000000000000L);
        x.item(0, 1, 1, Long.MIN_VALUE);
        DUE.is("-0", x.itemOf(0, 1, 2, 1), Long.MIN_VALUE);
        x.item(0, 2, 0, 0x1_ffff_fffeL);
        DUE.is("a MARK", x.itemOf(0, 2, 3, 0), -2);
        x.item(0, 2, 0, 0x1_7fff_fffeL);
        DUE.is("a MARK above 0", x.itemOf(0, 2, 3, 0), 0x7ffffffe);
        DUE.is("another SORT", x.itemOf(0, 2, 1, 0), -14);
        DUE.is("another SORT ahead of the place", x.itemOf(0, 2, 2, 9), -14);
        DUE.is("no place", x.itemOf(0, 2, 3, 2), -12);
        DUE.is("place -1", x.itemOf(0, 2, 3, -1), -12);
        DUE.is("NOTHING ahead of all", x.itemOf(0, 3, 3, -1), -11);
        DUE.is("sort 0", x.itemOf(0, 2, 0, 0), BAD);
        DUE.is("sort 4", x.itemOf(0, 2, 4, 0), BAD);
        DUE.is("no bearer", x.itemOf(1, 2, 3, 0), BAD);
    }

    private static void copies() {
        RightsHouse x = Due.house(1, 0);
        x.feature(0, 0, 1, 5);
        for (int i = 0; i < 5; i++) {
            x.item(0, 0, i, i + 1);
        }
        x.feature(100, 1, 1, 3);
        x.feature(100, 2, 3, 3);
        DUE.is("copy", x.copy(0, 0, 3, 100, 1, 1, 2), 2);
        DUE.is("copied 0", x.itemOf(100, 1, 1, 0), 0);
        DUE.is("copied 1", x.itemOf(100, 1, 1, 1), 4);
        DUE.is("copied 2", x.itemOf(100, 1, 1, 2), 5);
        DUE.is("copy over itself", x.copy(0, 0, 0, 0, 0, 1, 4), 4);
        for (int i = 0; i < 5; i++) {
            DUE.is("over itself " + i, x.itemOf(0, 0, 1, i), i == 0 ? 1 : i);
        }
        DUE.is("copy over itself down", x.copy(0, 0, 1, 0, 0, 0, 4), 4);
        DUE.is("down", x.itemOf(0, 0, 1, 2), 3);
        DUE.is("copy none at the end", x.copy(0, 0, 5, 100, 1, 3, 0), 0);
        DUE.is("copy from beyond", x.copy(0, 0, 6, 100, 1, 0, 0), -12);
        DUE.is("copy to beyond", x.copy(0, 0, 0, 100, 1, 2, 2), -12);
        DUE.is("copy too many", x.copy(0, 0, 3, 100, 1, 0, 3), -12);
        DUE.is("copy i below 0", x.copy(0, 0, -1, 100, 1, 0, 1), -12);
        DUE.is("copy j below 0", x.copy(0, 0, 0, 100, 1, -1, 1), -12);
        DUE.is("copy n below 0", x.copy(0, 0, 0, 100, 1, 0, -1), -12);
        DUE.is("copy running over", x.copy(0, 0, 1, 100, 1, 1, Integer.MAX_VALUE), -12);
        DUE.is("copy unlike SORTS", x.copy(0, 0, -1, 100, 2, 0, 1), -14);
        DUE.is("copy from NOTHING", x.copy(0, 5, -1, 100, 2, 0, 1), -11);
        DUE.is("copy to NOTHING", x.copy(0, 0, 0, 100, 5, 0, 1), -11);
        DUE.is("copy BAD", x.copy(0, 0, 0, 100, 8, 0, 1), BAD);
        DUE.is("copy BAD bearer", x.copy(2, 0, 0, 100, 1, 0, 1), BAD);
        DUE.is("what fails changes nothing", x.itemOf(100, 1, 1, 2), 5);
    }
}
