/**
 * REFUSALS: "FULL, as told; of several BAD, NO, FULL in this order, if nothing else is told; they change nothing". A test
 * for each FULL of the document: the last one that there is room for, one more, and what is refused ahead of FULL.
 */
final class FullTest {
    private static final Due DUE = new Due("FullTest");
    private static final int BAD = RightsHouse.BAD, NO = RightsHouse.NO, FULL = RightsHouse.FULL, NONE = RightsHouse.NONE;

    public static void main(String[] args) {
        tape();
        persons();
        groups();
        rows();
        givenRows();
        things();
        policies();
        forces();
        sweeps();
        laws();
        sessions();
        works();
        steps();
        ties();
        lends();
        statements();
        sums();
        rooms();
        methods();
        ops();
        log();
        DUE.end();
    }

    private static Twins twins(String name) {
        return new Twins(DUE, name);
    }

    /** A house with so many persons and groups. */
    private static Twins twins(String name, int persons, int groups) {
        Twins x = twins(name);
        for (int i = 0; i < persons; i++) {
            x.both(h -> h.person());
        }
        for (int i = 0; i < groups; i++) {
            x.both(h -> h.group());
        }
        return x;
    }

    /** Asked again and again, a call answers numbers up to the last one, then FULL. */
    private static void fill(Twins x, String told, int first, int count, Twins.Call call) {
        for (int i = first; i < count; i++) {
            x.is(told + " " + i, call, i);
        }
        x.refused(told + " " + count, call, FULL);
        x.refused(told + " " + count + ", again", call, FULL);
    }

    /** 2: "FULL." "THE TAPE is a row of 1200 bytes at most." */
    private static void tape() {
        for (int n = 1; n <= 8; n++) {
            int bytes = n;
            Twins x = twins("feed " + n);
            for (int i = 0; i < 150; i++) {
                x.both(h -> h.feed(8, 0x2020202020202020L));
            }
            x.is("cut to " + n + " short of 1200", h -> h.cut(1200 - bytes), bytes);
            x.refused("one too many", h -> h.feed(bytes < 8 ? bytes + 1 : 9, -1), bytes < 8 ? FULL : BAD);
            x.is("just so many", h -> h.feed(bytes, 0x2121212121212121L), 1200);
            for (int m = 1; m <= 8; m++) {
                int more = m;
                x.refused(m + " more", h -> h.feed(more, 0), FULL);
            }
            x.refused("BAD ahead of FULL", h -> h.feed(0, 0), BAD);
            x.refused("BAD ahead of FULL, too", h -> h.feed(9, 0), BAD);
            x.is("the first byte that is no blank", h -> h.policy(0), -10 - (1200 - bytes));
            x.alike();
        }
    }

    /** 5: "FULL." 1: "PERSONS (20)". */
    private static void persons() {
        Twins x = twins("person");
        fill(x, "person", 0, 20, h -> h.person());
        x.both(h -> h.group());
        x.is("the last one", h -> h.put(19, 0, 0, 9), 0);
        x.refused("none behind it", h -> h.put(20, 0, 0, 9), BAD);
        x.alike();
    }

    /** 6: "FULL." 1: "GROUPS (16)". */
    private static void groups() {
        Twins x = twins("group", 1, 0);
        fill(x, "group", 0, 16, h -> h.group());
        x.is("the last one", h -> h.put(115, 0, 0, 9), 0);
        x.refused("none behind it", h -> h.put(116, 0, 0, 9), BAD);
        x.refused("none behind it, too", h -> h.put(0, 16, 0, 9), BAD);
        x.alike();
    }

    /** 7: "FULL." 1: "A ROW (200, numbered from 0)". */
    private static void rows() {
        Twins x = twins("put", 1, 2);
        x.is("a row of groups", h -> h.put(100, 1, 0, 9), 0);
        fill(x, "row", 1, 200, h -> h.put(0, 0, 3, 9));
        x.refused("NO ahead of FULL", h -> h.put(101, 0, 0, 9), NO);
        x.refused("BAD ahead of FULL", h -> h.put(0, 0, 9, 9), BAD);
        x.refused("BAD ahead of NO, FULL", h -> h.put(101, 0, 9, 9), BAD);
        x.is("the last one", h -> h.rowOf(199, 2), 3);
        x.refused("none behind it", h -> h.rowOf(200, 2), BAD);
        x.is("taken back", h -> h.back(199), 1);
        x.refused("which makes no room", h -> h.put(0, 0, 3, 9), FULL);
        x.alike();
    }

    /** 35: "FULL." Behind GIVER and the LAWS. */
    private static void givenRows() {
        Twins x = twins("give", 2, 3);
        x.both(h -> h.law(2, 1, 0));
        x.both(h -> h.law(4, 2, 1));
        for (int i = 0; i < 198; i++) {
            x.both(h -> h.put(0, 0, 0, 9));
        }
        fill(x, "given row", 198, 200, h -> h.give(1, 0, 0, 9));
        x.refused("FULL is by no LAW", h -> h.broken(), NONE);
        x.refused("NO ahead of FULL: a LAW", h -> h.give(1, 1, 0, 9), NO);
        x.refused("its number", h -> h.broken(), 0);
        x.refused("NO ahead of FULL: GIVER", h -> h.give(1, 2, 0, 9), NO);
        x.refused("its number, too", h -> h.broken(), 1);
        x.refused("BAD ahead of FULL", h -> h.give(1, 0, 0, 0), BAD);
        x.refused("FULL", h -> h.give(0, 0, 0, 9), FULL);
        x.refused("by none again", h -> h.broken(), NONE);
        x.is("who would have been given it", h -> h.belongs(1, 1, 0, 0), 0);
        x.refused("none behind the last one", h -> h.rowOf(200, 0), BAD);
        x.is("two rows of the log", h -> h.logged(-1, 0), 2);
        x.alike();
    }

    /** 15: "FULL." 2: "THINGS (40), numbered from 0: 0 is there from the beginning". */
    private static void things() {
        Twins x = twins("thing");
        fill(x, "thing", 1, 40, h -> h.thing(0, NONE));
        x.refused("BAD ahead of FULL: place", h -> h.thing(40, NONE), BAD);
        x.refused("BAD ahead of FULL: owner", h -> h.thing(0, 0), BAD);
        x.is("the last one", h -> h.drop(39), 1);
        x.refused("a GONE one makes no room", h -> h.thing(0, NONE), FULL);
        x.refused("BAD ahead of FULL: a GONE place", h -> h.thing(39, NONE), BAD);
        x.refused("none behind it", h -> h.thingOf(40, 0), BAD);
        x.alike();
    }

    /** 23: "FULL. -10 less the FAULT's place (asked behind FULL; THE TAPE is empty then, too)." 3: "A POLICY (8)". */
    private static void policies() {
        Twins x = twins("policy");
        for (int i = 0; i < 8; i++) {
            int n = i;
            x.is("policy " + i, h -> Due.policy(h, n % 4, "yes any r any"), i);
            x.is("a text with a FAULT takes no number", h -> Due.policy(h, 0, "no any"), n < 7 ? -16 : FULL);
            x.is("THE TAPE behind it", h -> h.cut(0), n < 7 ? 0 : 6);
        }
        x.both(h -> h.feed(3, 0x796573));
        x.refused("FULL ahead of a FAULT", h -> h.policy(0), FULL);
        x.refused("BAD ahead of FULL", h -> h.policy(4), BAD);
        x.is("neither takes THE TAPE", h -> h.cut(3), 0);
        x.is("the last one", h -> h.rules(7), 1);
        x.refused("none behind it", h -> h.rules(8), BAD);
        x.alike();
    }

    /** 25: "FULL." 3: "what inForce() (40 times) told last". */
    private static void forces() {
        Twins x = twins("inForce", 1, 0);
        x.both(h -> Due.policy(h, 0, "yes any r any"));
        x.both(h -> Due.policy(h, 0, "maybe any r any"));
        for (int i = 0; i < 40; i++) {
            int p = i % 2;
            x.is("time " + i, h -> h.inForce(p), 1);
        }
        x.refused("time 40", h -> h.inForce(0), FULL);
        x.refused("BAD ahead of FULL", h -> h.inForce(2), BAD);
        x.is("the last that was told", h -> h.ask(0, 0, 0), 2);
        x.is("the log has no more of them", h -> h.logged(-1, 0), 41);
        x.both(h -> h.tick(1));
        x.refused("later, too", h -> h.inForce(0), FULL);
        x.is("still the last that was told", h -> h.ask(0, 0, 0), 2);
        x.alike();
    }

    /** 31, 33: "FULL: 20 calls of compare() and decides() were answered." */
    private static void sweeps() {
        for (int compares = 0; compares <= 20; compares += 5) {
            Twins x = twins("compare " + compares + " times", 1, 0);
            x.both(h -> Due.policy(h, 0, "yes any r any"));
            x.both(h -> Due.policy(h, 0, "yes any w any"));
            for (int i = 0; i < 20; i++) {
                x.refused("what is BAD does not count", h -> h.compare(0, 2), BAD);
                x.refused("nor here", h -> h.decides(0, 1), BAD);
                if (i < compares) {
                    x.is("compare " + i, h -> h.compare(0, 1), 1);
                } else {
                    x.is("decides " + i, h -> h.decides(1, 0), 2);
                }
            }
            x.refused("compare", h -> h.compare(1, 0), FULL);
            x.refused("decides", h -> h.decides(1, 0), FULL);
            x.refused("BAD ahead of FULL", h -> h.compare(2, 0), BAD);
            x.refused("BAD ahead of FULL, too", h -> h.decides(0, 1), BAD);
            x.is("the latest that was answered", h -> h.compared(0), compares > 0 ? 1 : NO);
            x.alike();
        }
    }

    /** 34: "FULL." 4: "LAWS (20)". */
    private static void laws() {
        Twins x = twins("law", 1, 2);
        fill(x, "law", 0, 20, h -> h.law(2, 0, 0));
        x.refused("BAD ahead of FULL", h -> h.law(0, 0, 0), BAD);
        x.both(h -> h.put(0, 0, 0, 9));
        x.is("the last one", h -> h.breach(19), 19);
        x.is("none behind it", h -> h.breach(20), NONE);
        x.refused("nor further", h -> h.breach(21), BAD);
        x.alike();
    }

    /** 39: "FULL." 4: "A SESSION (8)". */
    private static void sessions() {
        Twins x = twins("session", 2, 1);
        fill(x, "session", 0, 8, h -> h.session(1));
        x.refused("BAD ahead of FULL", h -> h.session(2), BAD);
        x.both(h -> h.put(1, 0, 0, 9));
        x.is("the last one", h -> h.switchOn(7, 0), 1);
        x.refused("none behind it", h -> h.switchOn(8, 0), BAD);
        x.alike();
    }

    /** 43: "FULL." 5: "WORKS (4)". */
    private static void works() {
        Twins x = twins("work", 1, 1);
        fill(x, "work", 0, 4, h -> h.work());
        x.is("the last one", h -> h.step(3, 0), 0);
        x.refused("none behind it", h -> h.step(4, 0), BAD);
        x.alike();
    }

    /** 44: "FULL." 5: "STEPS (8 each)". */
    private static void steps() {
        Twins x = twins("step", 1, 1);
        for (int work = 0; work < 4; work++) {
            int w = work;
            x.both(h -> h.work());
            fill(x, "step of " + work, 0, 8, h -> h.step(w, 0));
        }
        x.refused("BAD ahead of FULL", h -> h.step(3, 1), BAD);
        x.is("the last one", h -> h.filled(3, 7), NONE);
        x.refused("none behind it", h -> h.filled(3, 8), BAD);
        x.alike();
    }

    /** 45: "FULL." 5: "TIES (12 each)". */
    private static void ties() {
        Twins x = twins("tie", 2, 1);
        x.both(h -> h.put(0, 0, 0, 9));
        x.both(h -> h.put(1, 0, 0, 9));
        for (int work = 0; work < 4; work++) {
            int w = work;
            x.both(h -> h.work());
            x.both(h -> h.step(w, 0));
            x.both(h -> h.step(w, 0));
            for (int i = 0; i < 11; i++) {
                x.is("tie " + i + " of " + work, h -> h.tie(w, 2, 8, 0), i);
            }
            fill(x, "tie of " + work, 11, 12, h -> h.tie(w, 0, 0, 1));
        }
        x.refused("BAD ahead of FULL", h -> h.tie(3, 0, 1, 1), BAD);
        x.refused("SAME, FULL", h -> h.tie(3, 1, 0, 1), FULL);
        x.is("the last one holds", h -> h.fill(3, 9), 1);
        x.is("UNLIKE", h -> h.filled(3, 1), 1);
        x.alike();
    }

    /** 52: "FULL." 6: "LENDS (60)". */
    private static void lends() {
        Twins x = twins("lend", 3, 0);
        x.both(h -> h.thing(0, 0));
        fill(x, "lend", 0, 60, h -> h.lend(0, 1, 0, 1, 9, 1, -1));
        x.refused("NO ahead of FULL", h -> h.lend(2, 1, 0, 1, 9, 0, -1), NO);
        x.refused("BAD ahead of FULL", h -> h.lend(0, 1, 0, 1, 0, 0, -1), BAD);
        x.refused("BAD ahead of NO, FULL", h -> h.lend(2, 1, 0, 1, 0, 0, -1), BAD);
        x.is("the last one", h -> h.lendOf(59, 1), 1);
        x.refused("none behind it", h -> h.lendOf(60, 1), BAD);
        x.is("taken back", h -> h.endLend(59, 0), 1);
        x.refused("which makes no room", h -> h.lend(0, 1, 0, 1, 9, 1, -1), FULL);
        x.is("60 rows of the log", h -> h.logged(-1, 0), 60);
        x.alike();
    }

    /** 62: "FULL." 8: "STATEMENTS (60)". */
    private static void statements() {
        Twins x = twins("statement");
        for (int i = 0; i < 59; i++) {
            x.both(h -> h.statement(1, 0, 5, 0));
        }
        fill(x, "statement", 59, 60, h -> h.statement(2, 0, 0, 0));
        x.refused("BAD ahead of FULL", h -> h.statement(1, 10, 5, 0), BAD);
        x.refused("behind the end of the last one", h -> h.statement(5, 0, 20, 0), FULL);
        x.is("60 of them", h -> h.flow(60), 1);
        x.is("not 59", h -> h.flow(59), 0);
        x.alike();
        Twins y = twins("statement in another one");
        for (int i = 0; i < 59; i++) {
            y.both(h -> h.statement(1, 0, 5, 0));
        }
        y.is("the last one", h -> h.statement(5, 1, 2, 0), 59);
        y.refused("NO ahead of FULL", h -> h.statement(2, 0, 2, 0), NO);
        y.refused("BAD ahead of NO, FULL", h -> h.statement(2, 0, 21, 0), BAD);
        y.refused("FULL", h -> h.statement(2, 0, 1, 0), FULL);
        y.is("erased", h -> h.erase(), 60);
        y.is("there is room", h -> h.statement(2, 0, 20, 0), 0);
        y.alike();
    }

    /** 71: "FULL: 40 were told to it (asked ahead of NO). A set that was told to it is told again, ahead of both". */
    private static void sums() {
        Twins x = twins("sum", 20, 0);
        for (int i = 0; i < 20; i++) {
            int p = i;
            x.both(h -> h.guarded(p, 1 << p));
        }
        // Pairs of one of the first ten and one of the last ten give nobody away.
        for (int i = 0; i < 40; i++) {
            long set = 1L << i / 10 | 1L << 10 + i % 10;
            x.is("pair " + i, h -> h.sum(0, set), set);
        }
        x.refused("one more", h -> h.sum(0, 1L << 9 | 1L << 19), FULL);
        x.refused("FULL ahead of NO", h -> h.sum(0, 1), FULL);
        x.refused("BAD ahead of FULL", h -> h.sum(0, 0), BAD);
        x.is("told again, ahead of FULL: the first", h -> h.sum(0, 1 | 1 << 10), 1 | 1 << 10);
        x.is("told again, ahead of FULL: the last", h -> h.sum(0, 1 << 3 | 1 << 19), 1 << 3 | 1 << 19);
        x.is("how many", h -> h.knows(0, 0), 40);
        x.is("to another ASKER", h -> h.sum(1, 1L << 9 | 1L << 19), 1L << 9 | 1L << 19);
        x.is("SHARE", h -> h.share(0, 1), 1);
        x.refused("told to the other one alone: FULL", h -> h.sum(0, 1L << 9 | 1L << 19), FULL);
        x.refused("NO to the other one", h -> h.sum(1, 1), NO);
        x.is("and told to it again", h -> h.sum(1, 1L << 9 | 1L << 19), 1L << 9 | 1L << 19);
        x.alike();
    }

    /** 74: "FULL." 10: "ROOMS (6)". */
    private static void rooms() {
        Twins x = twins("room");
        fill(x, "room", 0, 6, h -> h.room(65535));
        x.refused("BAD ahead of FULL", h -> h.room(65536), BAD);
        x.is("the last one", h -> h.method(5), 0);
        x.refused("none behind it", h -> h.method(6), BAD);
        x.alike();
    }

    /** 75: "FULL." 10: "METHODS (12)". */
    private static void methods() {
        Twins x = twins("method");
        x.both(h -> h.room(1));
        fill(x, "method", 0, 12, h -> h.method(0));
        x.refused("BAD ahead of FULL", h -> h.method(1), BAD);
        x.is("the last one", h -> h.enter(11, 0), 0);
        x.refused("none behind it", h -> h.enter(12, 0), BAD);
        x.alike();
    }

    /** 76: "FULL." 10: "rows of OPS (12)". */
    private static void ops() {
        Twins x = twins("op");
        x.both(h -> h.room(1));
        for (int method = 0; method < 12; method++) {
            int m = method;
            x.both(h -> h.method(0));
            fill(x, "op of " + method, 0, 12, h -> h.op(m, 4, 1, 0));
        }
        x.refused("BAD ahead of FULL", h -> h.op(11, 0, 12, 0), BAD);
        x.is("all of the last one", h -> h.enter(11, 12), 0);
        x.is("counted", h -> h.entered(1), 12);
        x.is("no more", h -> h.entered(0), 12);
        x.alike();
    }

    /** 12: "THE LOG (300 ROWS) .. When it is full nothing is put any more, and what would have been put goes on." */
    private static void log() {
        RightsHouse x = new RightsHouse();
        x.person();
        x.person();
        x.group();
        x.thing(0, 0);
        Due.policy(x, 0, "yes any r any must 3");
        for (int i = 0; i < 299; i++) {
            x.ask(0, 1, 1);
        }
        DUE.is("299 rows", x.logged(-1, 0), 299);
        DUE.is("the last one that there is room for", x.ask(1, 2, 0), 0);
        DUE.is("300 rows", x.logged(-1, 0), 300);
        DUE.is("it is that one", x.logged(299, 3), 2);
        int sum = x.logged(299, 6);
        DUE.is("an ask() more", x.ask(0, 3, 1), 0);
        DUE.is("inForce() goes on", x.inForce(0), 1);
        DUE.is("ask() goes on", x.ask(0, 0, 1), 1);
        DUE.is("and is made", x.made(1), 3);
        DUE.is("give() goes on", x.give(1, 0, 0, 9), 0);
        DUE.is("and gave", x.belongs(1, 0, 0, 0), 1);
        DUE.is("lend() goes on", x.lend(0, 1, 0, 1, 9, 0, -1), 0);
        DUE.is("and lent", x.stands(1, 0, 1, 0), 1);
        DUE.is("300 rows still", x.logged(-1, 0), 300);
        DUE.is("the last one as it was", x.logged(299, 3), 2);
        DUE.is("its SUM", x.logged(299, 6), sum);
        DUE.is("none behind it", x.logged(300, 0), BAD);
        DUE.is("none to forge", x.forge(300, 0, 0), BAD);
        DUE.is("all hang together", x.wrong(), NONE);
        DUE.is("all are sealed", x.sealed(300, sum), 1);
        DUE.is("no more are", x.sealed(301, sum), BAD);
        DUE.is("the last one forged", x.forge(299, 5, 1), 0);
        DUE.is("is wrong", x.wrong(), 299);
    }
}
