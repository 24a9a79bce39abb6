/** Promises 61 to 69: label, statement, erase, tight, lowered, given, flow, said, variable. */
final class FlowsTest {
    private static final Due DUE = new Due("FlowsTest");
    private static final int BAD = RightsHouse.BAD, NO = RightsHouse.NO, FULL = RightsHouse.FULL, NONE = RightsHouse.NONE;
    private static final int SET = 0, KEEP = 1, IF = 2, SAY = 3, LOWER = 4, WHILE = 5;

    public static void main(String[] args) {
        labels();
        statements();
        reach();
        tightOfEach();
        tightInBlocks();
        lowered();
        runs();
        runsAnew();
        beyondTheEnd();
        loops();
        nestedLoops();
        said();
        mostStatements();
        mostSaid();
        numbersLikeRefusals();
        DUE.end();
    }

    private static void labels() {
        RightsHouse x = new RightsHouse();
        DUE.is("all at first", x.label(0, 3), 255);
        DUE.is("what it was", x.label(0, 0), 3);
        DUE.is("a CHANNEL", x.label(13, 255), 255);
        DUE.is("label 14", x.label(14, 1), BAD);
        DUE.is("label -1", x.label(-1, 1), BAD);
        DUE.is("readers 256", x.label(0, 256), BAD);
        DUE.is("readers -1", x.label(0, -1), BAD);
        DUE.is("given at first", x.given(9, -5), 0);
        DUE.is("given what it was", x.given(9, 7), -5);
        DUE.is("given 10", x.given(10, 7), BAD);
        DUE.is("given -1", x.given(-1, 7), BAD);
        DUE.is("variable before any run", x.variable(9), 0);
        DUE.is("variable 10", x.variable(10), BAD);
        DUE.is("variable -1", x.variable(-1), BAD);
    }

    private static void statements() {
        RightsHouse x = new RightsHouse();
        DUE.is("kind 6", x.statement(6, 0, 0, 0), BAD);
        DUE.is("kind -1", x.statement(-1, 0, 0, 0), BAD);
        for (int kind = 0; kind <= 5; kind++) {
            int b = kind == SAY ? 10 : 0;
            DUE.is("a 10 of " + kind, x.statement(kind, 10, b, 0), BAD);
            DUE.is("a -1 of " + kind, x.statement(kind, -1, b, 0), BAD);
        }
        DUE.is("SET b", x.statement(SET, 0, 10, 0), BAD);
        DUE.is("SET c", x.statement(SET, 0, 0, -1), BAD);
        DUE.is("IF n 21", x.statement(IF, 0, 21, 0), BAD);
        DUE.is("IF n -1", x.statement(IF, 0, -1, 0), BAD);
        DUE.is("WHILE n 21", x.statement(WHILE, 0, 21, 0), BAD);
        DUE.is("SAY on a variable", x.statement(SAY, 0, 9, 0), BAD);
        DUE.is("SAY on 14", x.statement(SAY, 0, 14, 0), BAD);
        DUE.is("LOWER b", x.statement(LOWER, 0, 10, 0), BAD);
        DUE.is("LOWER by 8", x.statement(LOWER, 0, 0, 8), BAD);
        DUE.is("LOWER by -1", x.statement(LOWER, 0, 0, -1), BAD);
        DUE.is("KEEP, c does not count", x.statement(KEEP, 0, -99, 99), 0);
        DUE.is("SAY, c does not count", x.statement(SAY, 0, 13, 99), 1);
        DUE.is("IF, c does not count", x.statement(IF, 0, 20, 99), 2);
        for (int i = 3; i < 60; i++) {
            DUE.is("statement " + i, x.statement(KEEP, 0, 0, 0), i);
        }
        DUE.is("statement 60", x.statement(KEEP, 0, 0, 0), FULL);
        DUE.is("BAD ahead of FULL", x.statement(KEEP, 10, 0, 0), BAD);
        DUE.is("60 are TIGHT", x.tight(), NONE);
        DUE.is("60 run", x.flow(60), 1);
        DUE.is("erase", x.erase(), 60);
        DUE.is("erase again", x.erase(), 0);
        DUE.is("from 0 on", x.statement(KEEP, 0, 0, 0), 0);
    }

    private static void reach() {
        RightsHouse x = new RightsHouse();
        x.statement(IF, 0, 3, 0);
        DUE.is("beyond the end", x.statement(WHILE, 0, 3, 0), NO);
        DUE.is("BAD ahead of NO", x.statement(WHILE, 0, 21, 0), BAD);
        DUE.is("just to the end", x.statement(WHILE, 0, 2, 0), 1);
        DUE.is("beyond the inner end", x.statement(IF, 0, 2, 0), NO);
        DUE.is("within", x.statement(IF, 0, 1, 0), 2);
        DUE.is("at the end, with n", x.statement(IF, 0, 1, 0), NO);
        DUE.is("at the end, without", x.statement(IF, 0, 0, 0), 3);
        DUE.is("behind all", x.statement(IF, 0, 20, 0), 4);
        RightsHouse y = new RightsHouse();
        for (int i = 0; i < 59; i++) {
            y.statement(KEEP, 0, 0, 0);
        }
        y.statement(IF, 0, 1, 0);
        DUE.is("NO ahead of FULL", y.statement(IF, 0, 1, 0), NO);
        DUE.is("FULL", y.statement(IF, 0, 0, 0), FULL);
    }

    private static int tight(int[] labels, int kind, int a, int b, int c) {
        RightsHouse x = new RightsHouse();
        for (int v = 0; v < labels.length; v++) {
            x.label(v, labels[v]);
        }
        x.label(10, 2);
        x.statement(kind, a, b, c);
        return x.tight();
    }

    private static void tightOfEach() {
        DUE.is("no statement", new RightsHouse().tight(), NONE);
        DUE.is("SET to the readers of both", tight(new int[] {4, 6, 12}, SET, 0, 1, 2), NONE);
        DUE.is("SET to a reader of one", tight(new int[] {6, 6, 12}, SET, 0, 1, 2), 0);
        DUE.is("SET to nobody", tight(new int[] {0, 6, 12}, SET, 0, 1, 2), NONE);
        DUE.is("KEEP", tight(new int[] {255, 0}, KEEP, 0, 1, 0), NONE);
        DUE.is("SAY", tight(new int[] {6}, SAY, 0, 10, 0), NONE);
        DUE.is("SAY to another", tight(new int[] {4}, SAY, 0, 10, 0), 0);
        DUE.is("LOWER by a reader", tight(new int[] {255, 4}, LOWER, 0, 1, 2), NONE);
        DUE.is("LOWER by another", tight(new int[] {255, 4}, LOWER, 0, 1, 1), 0);
        DUE.is("IF", tight(new int[] {0}, IF, 0, 1, 0), NONE);
        DUE.is("WHILE", tight(new int[] {0}, WHILE, 0, 1, 0), NONE);
    }

    private static void tightInBlocks() {
        RightsHouse x = new RightsHouse();
        x.label(0, 3);
        x.label(1, 6);
        x.label(2, 2);
        x.label(3, 6);
        x.statement(IF, 0, 3, 0);
        x.statement(KEEP, 2, 5, 0);
        x.statement(WHILE, 1, 1, 0);
        x.statement(SET, 2, 3, 3);
        x.statement(KEEP, 3, 5, 0);
        DUE.is("within both", x.tight(), NONE);
        x.label(2, 3);
        DUE.is("more readers than of the inner one", x.tight(), 3);
        x.label(0, 1);
        DUE.is("more readers than of the outer one", x.tight(), 1);
        RightsHouse y = new RightsHouse();
        y.label(0, 1);
        y.statement(WHILE, 0, 2, 0);
        y.statement(KEEP, 0, 5, 0);
        y.statement(LOWER, 1, 2, 0);
        DUE.is("LOWER within", y.tight(), 2);
        y.label(1, 1);
        DUE.is("LOWER within, to its readers", y.tight(), NONE);
        y.statement(KEEP, 3, 5, 0);
        DUE.is("behind", y.tight(), NONE);
    }

    private static void lowered() {
        RightsHouse x = new RightsHouse();
        DUE.is("none", x.lowered(), 0);
        x.statement(LOWER, 1, 2, 0);
        x.statement(KEEP, 1, 2, 0);
        x.statement(LOWER, 1, 1, 0);
        DUE.is("two", x.lowered(), 64);
        x.erase();
        DUE.is("none again", x.lowered(), 0);
    }

    private static void runs() {
        RightsHouse x = new RightsHouse();
        DUE.is("no statement", x.flow(0), 1);
        x.given(1, 2147483647);
        x.given(2, 1);
        x.statement(SET, 0, 1, 2);
        x.statement(KEEP, 3, -7, 0);
        x.statement(LOWER, 4, 3, 0);
        x.statement(IF, 5, 1, 0);
        x.statement(KEEP, 6, 1, 0);
        x.statement(IF, 4, 1, 0);
        x.statement(KEEP, 7, 1, 0);
        DUE.is("flow -1", x.flow(-1), BAD);
        DUE.is("flow 2001", x.flow(2001), BAD);
        DUE.is("one more than it needs", x.flow(7), 1);
        DUE.is("more than it needs", x.flow(2000), 1);
        DUE.is("nothing behind its end", x.variable(0), -2147483648);
        DUE.is("flow", x.flow(6), 1);
        DUE.is("SET, running over", x.variable(0), -2147483648);
        DUE.is("given", x.variable(1), 2147483647);
        DUE.is("KEEP", x.variable(3), -7);
        DUE.is("LOWER", x.variable(4), -7);
        DUE.is("IF not", x.variable(6), 0);
        DUE.is("IF so", x.variable(7), 1);
        DUE.is("one less", x.flow(5), 0);
        DUE.is("not come to", x.variable(7), 0);
        DUE.is("come to", x.variable(4), -7);
        DUE.is("none at all", x.flow(0), 0);
        DUE.is("as given", x.variable(4), 0);
        x.given(4, 9);
        DUE.is("given does not change the latest run", x.variable(4), 0);
        x.erase();
        DUE.is("nor does erase", x.variable(1), 2147483647);
        x.statement(IF, 0, 5, 0);
        x.statement(KEEP, 1, 3, 0);
        DUE.is("IF over the end", x.flow(1), 1);
        DUE.is("left out", x.variable(1), 2147483647);
    }

    /** A run begins anew, wherever the one ahead of it was cut off. */
    private static void runsAnew() {
        RightsHouse x = new RightsHouse();
        x.given(0, 2);
        x.given(1, 2);
        x.given(9, -1);
        x.statement(WHILE, 0, 4, 0);
        x.statement(SET, 0, 0, 9);
        x.statement(WHILE, 1, 2, 0);
        x.statement(SAY, 1, 13, 0);
        x.statement(SET, 1, 1, 9);
        x.statement(KEEP, 5, 7, 0);
        // WHILE, SET, 3 WHILE, 2 (SAY, SET); WHILE, SET, WHILE; WHILE; KEEP
        for (int most = 0; most < 14; most++) {
            DUE.is("cut off at " + most, x.flow(most), 0);
            DUE.is("anew behind " + most, x.flow(14), 1);
            DUE.is("to its end", x.variable(5), 7);
            DUE.is("said anew", x.said(13, -1), 2);
        }
        DUE.is("BAD is no run", x.flow(2001), BAD);
        DUE.is("the latest one stays", x.variable(5), 7);
    }

    /** "what is not there yet counts as empty"; "0 .. 20". */
    private static void beyondTheEnd() {
        RightsHouse x = new RightsHouse();
        x.statement(IF, 0, 20, 0);
        x.statement(KEEP, 1, 3, 0);
        DUE.is("IF not, over the end", x.flow(2000), 1);
        DUE.is("left out", x.variable(1), 0);
        DUE.is("one alone", x.flow(1), 1);
        x.given(0, 1);
        DUE.is("IF so", x.flow(2), 1);
        DUE.is("come to", x.variable(1), 3);
        x.erase();
        x.statement(IF, 0, 0, 0);
        x.statement(KEEP, 2, 3, 0);
        DUE.is("IF of none", x.flow(2), 1);
        DUE.is("what is behind it", x.variable(2), 3);
        x.given(0, 0);
        DUE.is("IF of none, not so", x.flow(2), 1);
        DUE.is("what is behind it, too", x.variable(2), 3);
        x.erase();
        x.statement(WHILE, 0, 20, 0);
        x.statement(WHILE, 1, 19, 0);
        x.statement(IF, 2, 18, 0);
        DUE.is("WHILE not, over the end", x.flow(1), 1);
        x.given(0, 1);
        DUE.is("WHILE without an end", x.flow(2000), 0);
        x.erase();
        x.given(0, 0);
        // LOWER of 0 by way of variable 2, whose number is no reach
        x.statement(LOWER, 1, 2, 0);
        x.statement(KEEP, 3, 1, 0);
        x.statement(KEEP, 4, 1, 0);
        x.statement(KEEP, 5, 1, 0);
        DUE.is("LOWER of 0", x.flow(4), 1);
        DUE.is("the next one", x.variable(3), 1);
        DUE.is("the last one", x.variable(5), 1);
        x.erase();
        x.statement(SET, 1, 2, 3);
        x.statement(KEEP, 4, 6, 0);
        DUE.is("SET of 0", x.flow(1), 0);
        DUE.is("one more", x.flow(2), 1);
    }

    private static void loops() {
        RightsHouse x = new RightsHouse();
        x.given(0, 3);
        x.given(1, -1);
        x.statement(WHILE, 0, 2, 0);
        x.statement(SAY, 0, 11, 0);
        x.statement(SET, 0, 0, 1);
        x.statement(SAY, 0, 12, 0);
        DUE.is("three times and its end", x.flow(11), 1);
        DUE.is("how many", x.said(11, -1), 3);
        DUE.is("said 0", x.said(11, 0), 3);
        DUE.is("said 2", x.said(11, 2), 1);
        DUE.is("said 3", x.said(11, 3), BAD);
        DUE.is("said -2", x.said(11, -2), BAD);
        DUE.is("behind it", x.said(12, 0), 0);
        DUE.is("one less", x.flow(10), 0);
        DUE.is("not behind it", x.said(12, -1), 0);
        DUE.is("said on 9", x.said(9, -1), BAD);
        DUE.is("said on 14", x.said(14, -1), BAD);
        RightsHouse y = new RightsHouse();
        y.given(0, 1);
        y.statement(WHILE, 0, 0, 0);
        DUE.is("WHILE of none", y.flow(2000), 0);
        y.given(0, 0);
        DUE.is("WHILE not", y.flow(1), 1);
        RightsHouse z = new RightsHouse();
        z.given(0, 2);
        z.given(1, -1);
        z.statement(WHILE, 0, 20, 0);
        z.statement(SET, 0, 0, 1);
        DUE.is("what is not there is empty", z.flow(5), 1);
        DUE.is("its end", z.variable(0), 0);
        DUE.is("one less", z.flow(4), 0);
    }

    private static void nestedLoops() {
        RightsHouse x = new RightsHouse();
        x.given(0, 3);
        x.given(9, -1);
        // while 0: 1 = 2; while 1: say, 1 less; if 2 (0): keep; 0 less
        x.statement(WHILE, 0, 7, 0);
        x.statement(KEEP, 1, 2, 0);
        x.statement(WHILE, 1, 2, 0);
        x.statement(SAY, 1, 10, 0);
        x.statement(SET, 1, 1, 9);
        x.statement(SET, 0, 0, 9);
        x.statement(IF, 2, 1, 0);
        x.statement(KEEP, 3, 1, 0);
        // each time: WHILE, KEEP, 3 WHILE, 2 (SAY, SET), SET, IF
        DUE.is("flow", x.flow(3 * 11 + 1), 1);
        DUE.is("said", x.said(10, -1), 6);
        DUE.is("said 4", x.said(10, 4), 2);
        DUE.is("said 5", x.said(10, 5), 1);
        DUE.is("the IF at the end of the WHILE", x.variable(3), 0);
        DUE.is("one less", x.flow(3 * 11), 0);
        RightsHouse y = new RightsHouse();
        y.given(0, 2);
        y.given(9, -1);
        // while 0: 0 less, then (to the very end) while 1
        y.statement(WHILE, 0, 3, 0);
        y.statement(SET, 0, 0, 9);
        y.statement(WHILE, 1, 1, 0);
        y.statement(SAY, 0, 13, 0);
        DUE.is("a WHILE at the end of another one", y.flow(7), 1);
        DUE.is("said nothing", y.said(13, -1), 0);
    }

    /** 67: "A run of so many STATEMENTS at most (0 .. 2000 ..): 1: it came to the end; 0: one more would be due." */
    private static void mostStatements() {
        RightsHouse x = new RightsHouse();
        x.given(0, 666);
        x.given(9, -1);
        x.statement(WHILE, 0, 2, 0);
        x.statement(SET, 0, 0, 9);
        x.statement(KEEP, 1, 1, 0);
        // 666 times three, WHILE once more, and one
        x.statement(KEEP, 2, 1, 0);
        DUE.is("2000", x.flow(2000), 1);
        DUE.is("to the end", x.variable(2), 1);
        DUE.is("1999", x.flow(1999), 0);
        DUE.is("not to the end", x.variable(2), 0);
        x.statement(KEEP, 3, 1, 0);
        DUE.is("2001", x.flow(2000), 0);
        DUE.is("all but the last one", x.variable(2) - x.variable(3), 1);
        x.erase();
        DUE.is("none, of none", x.flow(0), 1);
        x.statement(KEEP, 3, 1, 0);
        DUE.is("none, of one", x.flow(0), 0);
        DUE.is("one, of one", x.flow(1), 1);
    }

    /** 68: "of each CHANNEL the first 200 are kept". */
    private static void mostSaid() {
        for (int times = 199; times <= 201; times++) {
            RightsHouse x = new RightsHouse();
            x.given(0, times);
            x.given(9, -1);
            x.statement(WHILE, 0, 4, 0);
            x.statement(SAY, 0, 10, 0);
            x.statement(SAY, 0, 13, 0);
            x.statement(SAY, 0, 13, 0);
            x.statement(SET, 0, 0, 9);
            DUE.is(times + " times", x.flow(2000), 1);
            int kept = Math.min(times, 200);
            DUE.is("kept of " + times, x.said(10, -1), kept);
            DUE.is("the first one of " + times, x.said(10, 0), times);
            DUE.is("the last one of " + times, x.said(10, kept - 1), times - kept + 1);
            DUE.is("none behind it", x.said(10, kept), BAD);
            DUE.is("kept of twice " + times, x.said(13, -1), 200);
            DUE.is("the last one of twice " + times, x.said(13, 199), times - 99);
            DUE.is("none behind that", x.said(13, 200), BAD);
            DUE.is("nothing on another one", x.said(12, -1), 0);
        }
    }

    /** 66, 68, 69: "BAD (which it may be)", and what the others are. */
    private static void numbersLikeRefusals() {
        RightsHouse x = new RightsHouse();
        x.statement(SAY, 0, 10, 0);
        x.given(0, -4);
        for (int v = -4; v <= -1; v++) {
            DUE.is("flow", x.flow(1), 1);
            DUE.is("said " + v, x.said(10, 0), v);
            DUE.is("variable " + v, x.variable(0), v);
            DUE.is("given " + v, x.given(0, v + 1), v);
        }
        x.given(0, Integer.MIN_VALUE);
        DUE.is("the least", x.given(0, Integer.MAX_VALUE), Integer.MIN_VALUE);
        DUE.is("the greatest", x.given(0, 0), Integer.MAX_VALUE);
        x.statement(KEEP, 1, Integer.MIN_VALUE, 0);
        x.statement(KEEP, 2, -1, 0);
        x.statement(SET, 3, 1, 2);
        x.statement(SET, 4, 1, 1);
        x.flow(9);
        DUE.is("KEEP the least", x.variable(1), Integer.MIN_VALUE);
        DUE.is("SET running over below", x.variable(3), Integer.MAX_VALUE);
        DUE.is("SET running over to 0", x.variable(4), 0);
    }

    private static void said() {
        RightsHouse x = new RightsHouse();
        x.given(0, 1);
        x.statement(WHILE, 0, 2, 0);
        x.statement(SAY, 1, 10, 0);
        x.statement(SET, 1, 1, 0);
        DUE.is("endless", x.flow(2000), 0);
        DUE.is("the first 200 are kept", x.said(10, -1), 200);
        DUE.is("the last of them", x.said(10, 199), 199);
        DUE.is("no more", x.said(10, 200), BAD);
        DUE.is("a new run", x.flow(8), 0);
        DUE.is("from the first on", x.said(10, -1), 3);
        DUE.is("erase", x.erase(), 3);
        DUE.is("erase leaves what was said", x.said(10, -1), 3);
        x.flow(0);
        DUE.is("a run that says nothing", x.said(10, -1), 0);
    }
}
