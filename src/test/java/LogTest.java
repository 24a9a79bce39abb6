/** Promises 81 to 85: logged, forge, wrong, sealed, could. */
final class LogTest {
    private static final Due DUE = new Due("LogTest");
    private static final int BAD = RightsHouse.BAD, NONE = RightsHouse.NONE;

    public static void main(String[] args) {
        rows();
        howMany();
        firstRow();
        notLogged();
        sums();
        forged();
        forgedLikeRefusals();
        could();
        DUE.end();
    }

    private static RightsHouse house() {
        RightsHouse x = Due.house(3, 2);
        x.thing(0, 0);
        return x;
    }

    private static void row(RightsHouse x, int i, int... due) {
        for (int what = 0; what < due.length; what++) {
            DUE.is("row " + i + ", " + what, x.logged(i, what), due[what]);
        }
    }

    /** Five rows: ask, inForce, ask, give, lend. */
    private static RightsHouse logged() {
        RightsHouse x = house();
        x.tick(2);
        x.ask(1, 3, 1);
        Due.policy(x, 0, "maybe p2 all any; yes any r any");
        Due.policy(x, 0, "yes any r any");
        x.tick(3);
        x.inForce(1);
        x.inForce(0);
        x.tick(1);
        x.ask(2, 4, 1);
        x.put(0, 0, 0, 9);
        x.give(2, 1, 0, 99);
        x.tick(1);
        x.lend(0, 1, 4, 1, 50, 3, -1);
        x.lend(0, 2, 4, 1, 50, 3, -1);
        return x;
    }

    private static void rows() {
        RightsHouse x = logged();
        DUE.is("how many", x.logged(-1, 0), 7);
        row(x, 0, 0, 2, 1, 3, 1, 0);
        row(x, 1, 1, 5, 1, 0, 0, 1);
        row(x, 2, 1, 5, 0, 0, 0, 1);
        row(x, 3, 0, 6, 2, 4, 1, 2);
        row(x, 4, 2, 6, 2, 1, 0, 1);
        row(x, 5, 3, 7, 0, 1, 0, 0);
        row(x, 6, 3, 7, 0, 2, 1, 1);
        DUE.is("row 7", x.logged(7, 0), BAD);
        DUE.is("row -2", x.logged(-2, 0), BAD);
        DUE.is("what 7", x.logged(0, 7), BAD);
        DUE.is("what -1", x.logged(0, -1), BAD);
    }

    /** With i = -1 no ROW is named, so what does not count. */
    private static void howMany() {
        RightsHouse empty = new RightsHouse();
        RightsHouse x = logged();
        for (int what : new int[] {-1, 0, 6, 7, 99, Integer.MIN_VALUE, Integer.MAX_VALUE}) {
            DUE.is("no ROWS, what " + what, empty.logged(-1, what), 0);
            DUE.is("ROW 0 of none, what " + what, empty.logged(0, what), BAD);
            DUE.is("7 ROWS, what " + what, x.logged(-1, what), 7);
            DUE.is("ROW -2, what " + what, x.logged(-2, what), BAD);
            DUE.is("ROW 7, what " + what, x.logged(7, what), BAD);
        }
    }

    private static void firstRow() {
        RightsHouse x = house();
        DUE.is("give ROW 0", x.give(1, 1, 0, 99), 0);
        row(x, 0, 2, 0, 1, 1, 0, 0);
        Due.policy(x, 0, "yes any r any");
        x.inForce(0);
        DUE.is("could at 0", x.could(0, 1, 0, 2), 2);
    }

    private static void notLogged() {
        RightsHouse x = house();
        Due.policy(x, 0, "yes any r any");
        x.ask(3, 0, 0);
        x.inForce(1);
        x.asked(0, 0, 0, 0, 0);
        x.law(2, 0, 0);
        x.give(0, 0, 0, 9);
        x.give(0, 5, 0, 9);
        x.lend(1, 2, 0, 1, 9, 0, -1);
        x.lend(1, 1, 0, 1, 9, 0, -1);
        x.take(0, 0, 0);
        x.session(0);
        x.askIn(0, 0, 0);
        x.may(0, 0, 0, 0);
        x.compare(0, 0);
        DUE.is("none of these", x.logged(-1, 0), 0);
        for (int i = 0; i < 40; i++) {
            x.inForce(0);
        }
        x.inForce(0);
        DUE.is("what is FULL is not logged", x.logged(-1, 0), 40);
    }

    private static int mixed(int h, int... six) {
        int sum = h;
        for (int it : six) {
            sum = (sum ^ it) * 1664525 + 1013904223;
            sum = sum ^ sum >>> 15;
        }
        return sum;
    }

    private static void sums() {
        RightsHouse x = logged();
        int sum = 1;
        DUE.is("sealed of none", x.sealed(0, 1), 1);
        DUE.is("sealed of none, another SUM", x.sealed(0, 2), 0);
        for (int i = 0; i < 7; i++) {
            int[] six = new int[6];
            for (int what = 0; what < 6; what++) {
                six[what] = x.logged(i, what);
            }
            sum = mixed(sum, six);
            DUE.is("SUM " + i, x.logged(i, 6), sum);
            DUE.is("sealed " + (i + 1), x.sealed(i + 1, sum), 1);
            DUE.is("not sealed " + (i + 1), x.sealed(i + 1, sum + 1), 0);
        }
        DUE.is("the first SUM", x.logged(0, 6), mixed(1, 0, 2, 1, 3, 1, 0));
        DUE.is("nothing wrong", x.wrong(), NONE);
        DUE.is("sealed -1", x.sealed(-1, 1), BAD);
        DUE.is("sealed beyond", x.sealed(8, 1), BAD);
        DUE.is("an empty log", new RightsHouse().wrong(), NONE);
    }

    private static void forged() {
        RightsHouse x = logged();
        int third = x.logged(2, 6);
        int last = x.logged(6, 6);
        DUE.is("forge", x.forge(2, 4, 9), 0);
        DUE.is("forged", x.logged(2, 4), 9);
        DUE.is("its SUM stays", x.logged(2, 6), third);
        DUE.is("wrong", x.wrong(), 2);
        DUE.is("sealed ahead of it", x.sealed(2, x.logged(1, 6)), 1);
        DUE.is("sealed no more", x.sealed(3, third), 0);
        DUE.is("nor behind it", x.sealed(7, last), 0);
        DUE.is("forged back", x.forge(2, 4, 0), 9);
        DUE.is("right again", x.wrong(), NONE);
        DUE.is("sealed again", x.sealed(7, last), 1);
        for (int what = 0; what < 6; what++) {
            int was = x.logged(5, what);
            x.forge(5, what, was + 1);
            DUE.is("wrong by " + what, x.wrong(), 5);
            x.forge(5, what, was);
        }
        x.forge(0, 0, 7);
        DUE.is("wrong from the first on", x.wrong(), 0);
        x.forge(0, 0, 0);
        x.forge(6, 0, 8);
        x.ask(0, 0, 0);
        DUE.is("a row behind a forged one hangs on its SUM", x.wrong(), 6);
        x.forge(6, 0, 3);
        DUE.is("and is right itself", x.wrong(), NONE);
        DUE.is("forge a SUM", x.forge(2, 6, 0), BAD);
        DUE.is("forge -1", x.forge(2, -1, 0), BAD);
        DUE.is("forge no row", x.forge(8, 0, 0), BAD);
        DUE.is("forge row -1", x.forge(-1, 0, 0), BAD);
    }

    /** 81, 82: "BAD (which it may be)", and what the others are. */
    private static void forgedLikeRefusals() {
        RightsHouse x = logged();
        for (int what = 0; what < 6; what++) {
            int was = x.logged(0, what);
            for (int v = -4; v <= -1; v++) {
                DUE.is("forge " + what, x.forge(0, what, v), v == -4 ? was : v - 1);
                DUE.is("forged " + v, x.logged(0, what), v);
            }
            DUE.is("the least", x.forge(0, what, Integer.MIN_VALUE), -1);
            DUE.is("the greatest", x.forge(0, what, Integer.MAX_VALUE), Integer.MIN_VALUE);
            DUE.is("as it was", x.forge(0, what, was), Integer.MAX_VALUE);
        }
        DUE.is("right again", x.wrong(), NONE);
        DUE.is("sealed again", x.sealed(7, x.logged(6, 6)), 1);
    }

    private static void could() {
        RightsHouse x = house();
        x.put(1, 0, 5, 9);
        x.put(2, 0, 0, 99);
        Due.policy(x, 0, "yes g0 r any if age >= 2");
        Due.policy(x, 0, "yes own r any; yes p2 r any if now = 12");
        x.tick(4);
        DUE.is("none in force", x.could(0, 1, 4, 0), NONE);
        x.inForce(0);
        x.tick(6);
        x.inForce(1);
        x.tick(2);
        DUE.is("at 0", x.could(0, 1, 0, 0), NONE);
        DUE.is("at 3", x.could(0, 1, 3, 0), NONE);
        DUE.is("at 4", x.could(0, 1, 4, 0), 2);
        DUE.is("at 5", x.could(0, 1, 5, 0), 1);
        DUE.is("at 5, the next", x.could(0, 1, 5, 1), 2);
        DUE.is("at 5, no more", x.could(0, 1, 5, 2), NONE);
        DUE.is("at 9", x.could(0, 1, 9, 0), 2);
        DUE.is("at 10", x.could(0, 1, 10, 0), 0);
        DUE.is("at 12", x.could(0, 1, 12, 1), 2);
        DUE.is("above NOW", x.could(0, 1, 13, 0), BAD);
        DUE.is("below 0", x.could(0, 1, -1, 0), BAD);
        DUE.is("no act", x.could(6, 1, 5, 0), BAD);
        DUE.is("no thing", x.could(0, 2, 5, 0), BAD);
        DUE.is("i below 0", x.could(0, 1, 5, -1), BAD);
        x.back(0);
        DUE.is("as KNOWN NOW", x.could(0, 1, 5, 0), 2);
        DUE.is("it makes nothing", x.made(0), RightsHouse.NO);
        DUE.is("it logs nothing", x.logged(-1, 0), 2);
        x.drop(1);
        DUE.is("GONE", x.could(0, 1, 5, 0), BAD);
    }
}
