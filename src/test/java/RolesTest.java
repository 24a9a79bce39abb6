/** Promises 34 to 42: law, give, take, broken, breach, session, switchOn, switchOff, askIn. */
final class RolesTest {
    private static final Due DUE = new Due("RolesTest");
    private static final int BAD = RightsHouse.BAD, NO = RightsHouse.NO, FULL = RightsHouse.FULL, NONE = RightsHouse.NONE;

    public static void main(String[] args) {
        laws();
        fullLaws();
        gives();
        manyOfAll();
        givers();
        takes();
        most();
        both();
        lawsInOrder();
        fullRows();
        breaches();
        sessions();
        sessionLaws();
        asksIn();
        DUE.end();
    }

    private static void laws() {
        RightsHouse x = Due.house(1, 2);
        DUE.is("law kind 5", x.law(5, 0, 1), BAD);
        DUE.is("law kind -1", x.law(-1, 0, 1), BAD);
        DUE.is("law no group", x.law(0, 2, 1), BAD);
        DUE.is("law no other group", x.law(0, 0, 2), BAD);
        DUE.is("APART the same", x.law(0, 0, 0), BAD);
        DUE.is("NOT AT ONCE the same", x.law(1, 0, 0), BAD);
        DUE.is("FIRST the same", x.law(3, 1, 1), BAD);
        DUE.is("GIVER the same", x.law(4, 1, 1), 0);
        DUE.is("MOST 1 of group 1", x.law(2, 1, 1), 1);
        DUE.is("MOST 0", x.law(2, 1, 0), 2);
        DUE.is("MOST 24", x.law(2, 1, 24), 3);
        DUE.is("MOST 25", x.law(2, 1, 25), BAD);
        DUE.is("MOST -1", x.law(2, 1, -1), BAD);
        DUE.is("MOST of no group", x.law(2, 2, 1), BAD);
        DUE.is("GIVER no group", x.law(4, 1, 2), BAD);
    }

    private static void fullLaws() {
        RightsHouse x = Due.house(1, 2);
        for (int i = 0; i < 20; i++) {
            DUE.is("law " + i, x.law(2, 0, 24), i);
        }
        DUE.is("law 20", x.law(2, 0, 24), FULL);
        DUE.is("BAD ahead of FULL", x.law(2, 0, 25), BAD);
    }

    private static void gives() {
        RightsHouse x = Due.house(2, 2);
        x.tick(5);
        DUE.is("give", x.give(0, 1, 1, 9), 0);
        DUE.is("its MEMBER", x.rowOf(0, 0), 0);
        DUE.is("its GROUP", x.rowOf(0, 1), 1);
        DUE.is("its from", x.rowOf(0, 2), 5);
        DUE.is("its until", x.rowOf(0, 3), 9);
        DUE.is("its KNOWN from", x.rowOf(0, 4), 5);
        DUE.is("it lasts", x.rowOf(0, 5), NONE);
        DUE.is("belongs", x.belongs(0, 1, 5, 5), 1);
        DUE.is("until NOW", x.give(0, 1, 1, 5), BAD);
        DUE.is("until beyond", x.give(0, 1, 1, 1000000001), BAD);
        DUE.is("until the last", x.give(0, 1, 1, 1000000000), 1);
        DUE.is("no person", x.give(2, 1, 1, 9), BAD);
        DUE.is("a group", x.give(100, 1, 1, 9), BAD);
        DUE.is("no group", x.give(0, 2, 1, 9), BAD);
        DUE.is("by nobody", x.give(0, 1, 2, 9), BAD);
        x.law(0, 0, 1);
        DUE.is("APART", x.give(0, 0, 1, 9), NO);
        DUE.is("broken", x.broken(), 0);
        DUE.is("the row is not put", x.rowOf(2, 0), BAD);
        DUE.is("nor can it be taken", x.take(0, 0, 1), 0);
        DUE.is("BAD", x.give(0, 0, 1, 5), BAD);
        DUE.is("BAD leaves broken", x.broken(), 0);
        DUE.is("another one", x.give(1, 0, 1, 9), 2);
        DUE.is("nothing broken", x.broken(), NONE);
        DUE.is("put asks none of them", x.put(0, 0, 0, 9), 3);
        DUE.is("LAWS that do not hold already", x.give(1, 0, 1, 9), NO);
        DUE.is("broken", x.broken(), 0);
    }

    /** As many of all as there may be. */
    private static void manyOfAll() {
        RightsHouse x = Due.house(20, 16);
        x.law(4, 0, 15);
        x.law(0, 14, 15);
        x.law(1, 14, 15);
        for (int i = 3; i < 20; i++) {
            x.law(2, 15, 1);
        }
        for (int i = 0; i < 8; i++) {
            x.session(19);
        }
        DUE.is("GIVER as LAW 0", x.give(0, 0, 19, 9), NO);
        DUE.is("broken 0", x.broken(), 0);
        DUE.is("the last PERSON to the last GROUP", x.give(19, 15, 0, 9), 0);
        DUE.is("gives", x.give(0, 0, 19, 9), 1);
        DUE.is("all hold", x.breach(0), NONE);
        DUE.is("on in the last SESSION", x.switchOn(7, 15), 1);
        x.put(19, 14, 0, 9);
        DUE.is("NOT AT ONCE in the last SESSION", x.switchOn(7, 14), NO);
        DUE.is("broken 2", x.broken(), 2);
        x.put(18, 15, 0, 9);
        DUE.is("APART", x.breach(0), 1);
        DUE.is("MOST", x.breach(2), 3);
        DUE.is("the last LAW", x.breach(19), 19);
        DUE.is("behind it", x.breach(20), NONE);
    }

    private static void givers() {
        RightsHouse x = Due.house(4, 4);
        x.put(1, 2, 0, 50);
        x.put(2, 3, 0, 50);
        DUE.is("law 0", x.law(4, 1, 0), 0);
        DUE.is("law 1", x.law(4, 0, 2), 1);
        DUE.is("law 2", x.law(4, 0, 3), 2);
        DUE.is("by nobody of them", x.give(3, 0, 0, 9), NO);
        DUE.is("the first of the group's", x.broken(), 1);
        DUE.is("by the first", x.give(3, 0, 1, 9), 2);
        DUE.is("by the second", x.give(3, 0, 2, 9), 3);
        DUE.is("broken by none", x.broken(), NONE);
        DUE.is("take by nobody of them", x.take(3, 0, 0), NO);
        DUE.is("take leaves broken", x.broken(), NONE);
        DUE.is("take by one", x.take(3, 0, 2), 2);
        DUE.is("no GIVER for group 2", x.give(0, 2, 3, 9), 4);
        x.law(4, 3, 3);
        DUE.is("who is to get it is not in it yet", x.give(0, 3, 0, 9), NO);
        x.law(2, 0, 0);
        DUE.is("GIVER ahead of the others", x.give(3, 0, 3, 9), NO);
        DUE.is("GIVER broken", x.broken(), 1);
        DUE.is("then the others", x.give(3, 0, 1, 9), NO);
        DUE.is("MOST broken", x.broken(), 4);
    }

    private static void takes() {
        RightsHouse x = Due.house(2, 2);
        x.put(0, 0, 0, 5);
        x.put(0, 0, 70, 80);
        x.put(0, 1, 0, 5);
        x.put(1, 0, 0, 5);
        x.put(100, 1, 0, 5);
        x.put(0, 0, 1, 2);
        x.back(5);
        x.tick(3);
        DUE.is("take", x.take(0, 0, 1), 2);
        DUE.is("taken back NOW", x.rowOf(1, 5), 3);
        DUE.is("another group stays", x.rowOf(2, 5), NONE);
        DUE.is("another person stays", x.rowOf(3, 5), NONE);
        DUE.is("a group stays", x.rowOf(4, 5), NONE);
        DUE.is("one taken back already stays so", x.rowOf(5, 5), 0);
        DUE.is("take none", x.take(0, 0, 1), 0);
        DUE.is("take no person", x.take(2, 0, 1), BAD);
        DUE.is("take no group", x.take(0, 2, 1), BAD);
        DUE.is("take by nobody", x.take(0, 0, 2), BAD);
    }

    private static void most() {
        RightsHouse x = Due.house(4, 2);
        x.law(2, 1, 2);
        x.put(0, 0, 0, 50);
        x.put(100, 1, 0, 50);
        DUE.is("two", x.give(1, 1, 0, 50), 2);
        DUE.is("three", x.give(2, 1, 0, 50), NO);
        DUE.is("by the group", x.give(2, 0, 0, 50), NO);
        DUE.is("one of them again", x.give(0, 1, 0, 50), 3);
        x.tick(50);
        DUE.is("later", x.give(2, 0, 0, 60), 4);
    }

    private static void both() {
        RightsHouse x = Due.house(2, 3);
        x.law(3, 0, 1);
        DUE.is("without the other one", x.give(0, 0, 0, 9), NO);
        DUE.is("broken", x.broken(), 0);
        DUE.is("the other one", x.give(0, 1, 0, 9), 0);
        DUE.is("with it", x.give(0, 0, 0, 9), 1);
        x.put(102, 1, 0, 9);
        DUE.is("by a group", x.give(1, 2, 0, 9), 3);
        DUE.is("with it by a group", x.give(1, 0, 0, 9), 4);
        x.tick(9);
        DUE.is("no more", x.give(1, 0, 0, 19), NO);
    }

    private static void lawsInOrder() {
        RightsHouse x = Due.house(1, 3);
        x.law(3, 0, 1);
        x.law(2, 0, 0);
        x.law(0, 0, 2);
        x.law(1, 0, 1);
        x.put(0, 2, 0, 9);
        DUE.is("by the first", x.give(0, 0, 0, 9), NO);
        DUE.is("FIRST", x.broken(), 0);
        x.put(0, 1, 0, 9);
        DUE.is("by the second", x.give(0, 0, 0, 9), NO);
        DUE.is("MOST", x.broken(), 1);
    }

    private static void fullRows() {
        RightsHouse x = Due.house(2, 2);
        x.law(2, 1, 0);
        for (int i = 0; i < 200; i++) {
            x.put(0, 0, 0, 9);
        }
        DUE.is("FULL", x.give(0, 0, 0, 9), FULL);
        DUE.is("broken by none", x.broken(), NONE);
        DUE.is("NO ahead of FULL", x.give(1, 1, 0, 9), NO);
        DUE.is("broken", x.broken(), 0);
        DUE.is("the row is not there", x.belongs(1, 1, 0, 0), 0);
        DUE.is("FULL again", x.give(1, 0, 0, 9), FULL);
        DUE.is("nor this one", x.belongs(1, 0, 0, 0), 0);
        DUE.is("no row 200", x.rowOf(200, 0), BAD);
    }

    private static void breaches() {
        RightsHouse x = Due.house(2, 3);
        DUE.is("no laws", x.breach(0), NONE);
        DUE.is("no law 1", x.breach(1), BAD);
        x.law(4, 0, 1);
        x.law(0, 0, 1);
        x.law(2, 0, 0);
        x.law(3, 0, 2);
        x.law(1, 0, 1);
        DUE.is("all hold", x.breach(0), NONE);
        x.put(0, 0, 0, 9);
        x.put(0, 1, 0, 9);
        DUE.is("APART", x.breach(0), 1);
        DUE.is("MOST", x.breach(2), 2);
        DUE.is("FIRST", x.breach(3), 3);
        DUE.is("sessions", x.breach(4), NONE);
        DUE.is("behind all", x.breach(5), NONE);
        DUE.is("beyond", x.breach(6), BAD);
        DUE.is("-1", x.breach(-1), BAD);
        x.tick(9);
        DUE.is("NOW", x.breach(0), NONE);
    }

    private static void sessions() {
        RightsHouse x = Due.house(2, 3);
        DUE.is("no person", x.session(2), BAD);
        for (int i = 0; i < 8; i++) {
            DUE.is("session " + i, x.session(i % 2), i);
        }
        DUE.is("session 8", x.session(0), FULL);
        DUE.is("BAD ahead of FULL", x.session(-1), BAD);
        x.put(0, 0, 0, 9);
        x.put(100, 1, 0, 9);
        DUE.is("on", x.switchOn(0, 1), 1);
        DUE.is("on again", x.switchOn(0, 1), 0);
        DUE.is("not of it", x.switchOn(0, 2), NO);
        DUE.is("broken by none", x.broken(), NONE);
        DUE.is("another person", x.switchOn(1, 1), NO);
        x.tick(9);
        DUE.is("on, whoever belongs", x.switchOn(0, 1), 0);
        DUE.is("off", x.switchOff(0, 1), 1);
        DUE.is("off again", x.switchOff(0, 1), 0);
        DUE.is("no more of it", x.switchOn(0, 1), NO);
        DUE.is("on no session", x.switchOn(8, 1), BAD);
        DUE.is("on no group", x.switchOn(0, 3), BAD);
        DUE.is("off no session", x.switchOff(-1, 1), BAD);
        DUE.is("off no group", x.switchOff(0, -1), BAD);
    }

    private static void sessionLaws() {
        RightsHouse x = Due.house(1, 4);
        for (int g = 0; g < 4; g++) {
            x.put(0, g, 0, 99);
        }
        x.law(1, 2, 3);
        x.law(1, 0, 1);
        x.session(0);
        x.session(0);
        DUE.is("one on", x.switchOn(0, 0), 1);
        DUE.is("NOT AT ONCE", x.switchOn(0, 1), NO);
        DUE.is("broken", x.broken(), 1);
        DUE.is("it is off", x.switchOff(0, 1), 0);
        DUE.is("in another session", x.switchOn(1, 1), 1);
        DUE.is("broken by none", x.broken(), NONE);
        DUE.is("holds", x.breach(0), NONE);
        x.switchOn(0, 2);
        x.law(1, 0, 2);
        DUE.is("made later", x.breach(0), 2);
        DUE.is("BAD", x.switchOn(9, 0), BAD);
        DUE.is("was on: refused by none", x.switchOn(0, 0), 0);
        DUE.is("broken by none again", x.broken(), NONE);
        DUE.is("a LAW 1 that does not hold", x.switchOn(0, 3), NO);
        DUE.is("the first of them", x.broken(), 0);
        x.switchOff(0, 2);
        DUE.is("it holds again", x.breach(0), NONE);
        DUE.is("on now", x.switchOn(0, 3), 1);
    }

    private static void asksIn() {
        RightsHouse x = Due.house(2, 4);
        x.put(0, 0, 0, 99);
        x.put(100, 1, 0, 50);
        x.put(0, 2, 0, 20);
        x.put(102, 3, 0, 99);
        x.session(0);
        Due.policy(x, 0, "yes g1 r any must 3; yes g3 w any; yes p0 x any");
        DUE.is("none in force", x.askIn(0, 0, 0), 0);
        DUE.is("made by none", x.made(0), NONE);
        x.inForce(0);
        DUE.is("no group is on", x.askIn(0, 0, 0), 0);
        DUE.is("as a person", x.askIn(0, 2, 0), 1);
        DUE.is("made", x.made(0), 2);
        x.switchOn(0, 0);
        DUE.is("a group that leads to it is on", x.askIn(0, 0, 0), 1);
        DUE.is("its DUTY", x.made(1), 3);
        DUE.is("another is not on", x.askIn(0, 1, 0), 0);
        x.switchOn(0, 2);
        DUE.is("now it is", x.askIn(0, 1, 0), 1);
        DUE.is("no ROW of the LOG but of inForce()", x.logged(-1, 0), 1);
        x.tick(20);
        DUE.is("on, but no more of it", x.askIn(0, 1, 0), 0);
        x.tick(30);
        DUE.is("leads there no more", x.askIn(0, 0, 0), 0);
        DUE.is("no session", x.askIn(1, 0, 0), BAD);
        DUE.is("no act", x.askIn(0, 6, 0), BAD);
        DUE.is("no thing", x.askIn(0, 0, 1), BAD);
        x.thing(0, NONE);
        x.drop(1);
        DUE.is("a GONE thing", x.askIn(0, 0, 1), BAD);
    }
}
