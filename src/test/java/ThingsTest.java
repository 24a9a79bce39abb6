/** Promises 15 to 22: thing, move, cutOff, drop, thingOf, under, holds, doesHold. */
final class ThingsTest {
    private static final Due DUE = new Due("ThingsTest");
    private static final int BAD = RightsHouse.BAD, NO = RightsHouse.NO, FULL = RightsHouse.FULL, NONE = RightsHouse.NONE;

    public static void main(String[] args) {
        tree();
        cuts();
        drops();
        full();
        acts();
        DUE.end();
    }

    private static void tree() {
        RightsHouse x = new RightsHouse();
        x.person();
        DUE.is("thing", x.thing(0, 0), 1);
        DUE.is("thing of nobody", x.thing(1, NONE), 2);
        DUE.is("thing deeper", x.thing(2, 0), 3);
        DUE.is("thing in none", x.thing(4, 0), BAD);
        DUE.is("thing in -1", x.thing(-1, 0), BAD);
        DUE.is("thing of no person", x.thing(0, 1), BAD);
        DUE.is("thing of -1", x.thing(0, -1), BAD);
        DUE.is("PLACE", x.thingOf(3, 0), 2);
        DUE.is("owner", x.thingOf(3, 1), 0);
        DUE.is("no owner", x.thingOf(2, 1), NONE);
        DUE.is("DEPTH", x.thingOf(3, 4), 3);
        DUE.is("thingOf what 5", x.thingOf(3, 5), BAD);
        DUE.is("thingOf what -1", x.thingOf(3, -1), BAD);
        DUE.is("thingOf none", x.thingOf(4, 0), BAD);
        DUE.is("move into itself", x.move(1, 1), NO);
        DUE.is("move into what is in it", x.move(1, 3), NO);
        x.cutOff(3, true);
        DUE.is("move into what is in it, cut", x.move(1, 3), NO);
        DUE.is("move THING 0", x.move(0, 1), BAD);
        DUE.is("move to none", x.move(1, 4), BAD);
        DUE.is("move none", x.move(4, 1), BAD);
        DUE.is("move", x.move(3, 0), 1);
        DUE.is("PLACE behind move", x.thingOf(3, 0), 0);
        DUE.is("DEPTH behind move", x.thingOf(3, 4), 1);
        DUE.is("move now possible", x.move(1, 3), 1);
        DUE.is("DEPTH of what is in it", x.thingOf(2, 4), 3);
        DUE.is("move where it is", x.move(1, 3), 1);
    }

    private static void cuts() {
        RightsHouse x = new RightsHouse();
        x.thing(0, NONE);
        x.thing(1, NONE);
        x.thing(2, NONE);
        DUE.is("under itself", x.under(3, 3), 1);
        DUE.is("under 0", x.under(3, 0), 1);
        DUE.is("not under what is in it", x.under(1, 3), 0);
        DUE.is("cut", x.cutOff(2, true), 1);
        DUE.is("cut again", x.cutOff(2, true), 0);
        DUE.is("CUT", x.thingOf(2, 2), 1);
        DUE.is("under the cut one", x.under(3, 2), 1);
        DUE.is("not beyond it", x.under(3, 1), 0);
        DUE.is("the cut one itself", x.under(2, 2), 1);
        DUE.is("the cut one's place", x.under(2, 1), 0);
        DUE.is("open", x.cutOff(2, false), 1);
        DUE.is("open again", x.cutOff(2, false), 0);
        DUE.is("under again", x.under(3, 0), 1);
        DUE.is("cut THING 0", x.cutOff(0, true), 1);
        DUE.is("under THING 0, cut", x.under(3, 0), 1);
        DUE.is("cutOff none", x.cutOff(4, true), BAD);
        DUE.is("under none", x.under(4, 0), BAD);
        DUE.is("under of none", x.under(0, 4), BAD);
        DUE.is("under of -1", x.under(0, -1), BAD);
    }

    private static void drops() {
        RightsHouse x = new RightsHouse();
        x.thing(0, NONE);
        x.thing(1, NONE);
        DUE.is("drop THING 0", x.drop(0), BAD);
        DUE.is("drop none", x.drop(3), BAD);
        DUE.is("drop with one in it", x.drop(1), NO);
        DUE.is("drop", x.drop(2), 1);
        DUE.is("drop again", x.drop(2), BAD);
        DUE.is("GONE", x.thingOf(2, 3), 1);
        DUE.is("PLACE of a GONE one", x.thingOf(2, 0), 1);
        DUE.is("DEPTH of a GONE one", x.thingOf(2, 4), 2);
        DUE.is("drop with a GONE one in it", x.drop(1), 1);
        DUE.is("thing in a GONE one", x.thing(1, NONE), BAD);
        DUE.is("move a GONE one", x.move(1, 0), BAD);
        x.thing(0, NONE);
        DUE.is("move to a GONE one", x.move(3, 1), BAD);
        DUE.is("cut a GONE one", x.cutOff(1, true), BAD);
        DUE.is("under a GONE one", x.under(3, 1), BAD);
        DUE.is("a GONE one under", x.under(1, 0), BAD);
    }

    private static void full() {
        RightsHouse x = new RightsHouse();
        for (int i = 1; i < 40; i++) {
            DUE.is("thing " + i, x.thing(i - 1, NONE), i);
        }
        DUE.is("thing 40", x.thing(0, NONE), FULL);
        DUE.is("BAD ahead of FULL", x.thing(40, NONE), BAD);
        DUE.is("the deepest", x.thingOf(39, 4), 39);
        DUE.is("the deepest under 0", x.under(39, 0), 1);
        DUE.is("move into the deepest", x.move(1, 39), NO);
        x.drop(39);
        DUE.is("GONE ones count", x.thing(0, NONE), FULL);
    }

    private static void acts() {
        RightsHouse x = new RightsHouse();
        for (int act = 0; act < 6; act++) {
            DUE.is("o holds " + act, x.doesHold(5, act), 1);
            DUE.is(act + " holds itself", x.doesHold(act, act), 1);
            DUE.is("r holds " + act, x.doesHold(0, act), act == 0 ? 1 : 0);
            DUE.is("w holds " + act, x.doesHold(1, act), act <= 1 ? 1 : 0);
        }
        DUE.is("told already", x.holds(1, 0, true), 0);
        DUE.is("o r, told already", x.holds(5, 0, true), 0);
        DUE.is("told no more", x.holds(5, 0, false), 1);
        DUE.is("told no more again", x.holds(5, 0, false), 0);
        DUE.is("o holds r by w", x.doesHold(5, 0), 1);
        DUE.is("g holds x", x.holds(4, 2, true), 1);
        DUE.is("x holds d", x.holds(2, 3, true), 1);
        DUE.is("g holds d", x.doesHold(4, 3), 1);
        DUE.is("d holds not g", x.doesHold(3, 4), 0);
        DUE.is("a ring", x.holds(3, 4, true), 1);
        DUE.is("d holds x by g", x.doesHold(3, 2), 1);
        DUE.is("no more", x.holds(4, 2, false), 1);
        DUE.is("g holds d no more", x.doesHold(4, 3), 0);
        DUE.is("r holds x", x.holds(0, 2, true), 1);
        DUE.is("w holds x by r", x.doesHold(1, 2), 1);
        DUE.is("w holds d by r and x", x.doesHold(1, 3), 1);
        DUE.is("r holds d by x", x.doesHold(0, 3), 1);
        DUE.is("holds the same", x.holds(2, 2, true), BAD);
        DUE.is("holds 6", x.holds(6, 2, true), BAD);
        DUE.is("holds -1", x.holds(2, -1, true), BAD);
        DUE.is("doesHold 6", x.doesHold(6, 2), BAD);
        DUE.is("doesHold -1", x.doesHold(2, -1), BAD);
    }
}
