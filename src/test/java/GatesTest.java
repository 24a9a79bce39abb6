/** Promises 74 to 78: room, method, op, enter, entered. */
final class GatesTest {
    private static final Due DUE = new Due("GatesTest");
    private static final int BAD = RightsHouse.BAD, FULL = RightsHouse.FULL, NONE = RightsHouse.NONE;
    private static final int CALL = 0, MARK = 1, NEED = 2, TRY = 3, COUNT = 4;

    public static void main(String[] args) {
        counts();
        plainRuns();
        needs();
        marks();
        tries();
        deep();
        deepCaught();
        deepest();
        limits();
        mostOps();
        missing();
        DUE.end();
    }

    /** Rooms with these rights, and in each one method of the same number. */
    private static RightsHouse house(int... rights) {
        RightsHouse x = new RightsHouse();
        for (int room = 0; room < rights.length; room++) {
            x.room(rights[room]);
            x.method(room);
        }
        return x;
    }

    private static void entered(String told, RightsHouse x, int... due) {
        for (int what = 0; what < due.length; what++) {
            DUE.is(told + ": entered(" + what + ")", x.entered(what), due[what]);
        }
    }

    private static void counts() {
        RightsHouse x = new RightsHouse();
        DUE.is("method in none", x.method(0), BAD);
        DUE.is("room -1", x.room(-1), BAD);
        DUE.is("room 65536", x.room(65536), BAD);
        for (int i = 0; i < 6; i++) {
            DUE.is("room " + i, x.room(65535), i);
        }
        DUE.is("room 6", x.room(0), FULL);
        DUE.is("BAD ahead of FULL", x.room(-1), BAD);
        DUE.is("op of none", x.op(0, COUNT, 0, 0), BAD);
        for (int i = 0; i < 12; i++) {
            DUE.is("method " + i, x.method(i % 6), i);
        }
        DUE.is("method 12", x.method(0), FULL);
        DUE.is("method BAD ahead of FULL", x.method(6), BAD);
        DUE.is("op kind 5", x.op(0, 5, 0, 0), BAD);
        DUE.is("op kind -1", x.op(0, -1, 0, 0), BAD);
        DUE.is("op of method 12", x.op(12, COUNT, 0, 0), BAD);
        DUE.is("CALL 12", x.op(0, CALL, 12, 0), BAD);
        DUE.is("CALL -1", x.op(0, CALL, -1, 0), BAD);
        DUE.is("MARK 12", x.op(0, MARK, 12, 0), BAD);
        DUE.is("MARK rights 65536", x.op(0, MARK, 1, 65536), BAD);
        DUE.is("TRY 12", x.op(0, TRY, 12, 0), BAD);
        DUE.is("NEED 65536", x.op(0, NEED, 65536, 0), BAD);
        DUE.is("NEED -1", x.op(0, NEED, -1, 0), BAD);
        DUE.is("CALL, b does not count", x.op(0, CALL, 11, -9), 0);
        DUE.is("COUNT of any", x.op(0, COUNT, -99999, -9), 1);
        for (int i = 2; i < 12; i++) {
            DUE.is("op " + i, x.op(0, NEED, 65535, -1), i);
        }
        DUE.is("op 12", x.op(0, COUNT, 0, 0), FULL);
        DUE.is("op BAD ahead of FULL", x.op(0, 5, 0, 0), BAD);
        DUE.is("op of another", x.op(1, COUNT, 0, 0), 0);
        entered("before any", x, 0, 0, 0, 0, NONE, NONE, 0, 0);
        DUE.is("entered 8", x.entered(8), BAD);
        DUE.is("entered -1", x.entered(-1), BAD);
        DUE.is("enter none", x.enter(12, 1), BAD);
        DUE.is("enter -1", x.enter(-1, 1), BAD);
        DUE.is("enter ops -1", x.enter(0, -1), BAD);
        DUE.is("enter ops 1001", x.enter(0, 1001), BAD);
        DUE.is("enter ops 1000", x.enter(2, 1000), 0);
    }

    private static void plainRuns() {
        RightsHouse x = house(1, 2);
        DUE.is("without OPS", x.enter(0, 0), 0);
        entered("without OPS", x, 0, 0, 1, 1, NONE, NONE, 0, 0);
        x.op(0, COUNT, 2147483647, 0);
        x.op(0, CALL, 1, 0);
        x.op(0, COUNT, 1, 0);
        x.op(1, COUNT, 5, 0);
        DUE.is("plain", x.enter(0, 4), 0);
        entered("plain", x, 4, -2147483643, 2, 2, NONE, NONE, 0, 0);
        DUE.is("anew", x.enter(1, 4), 0);
        entered("anew", x, 1, 5, 1, 1, NONE, NONE, 0, 0);
    }

    private static void needs() {
        RightsHouse x = house(7, 3, 15);
        x.op(0, CALL, 1, 0);
        x.op(1, CALL, 2, 0);
        x.op(2, NEED, 3, 0);
        DUE.is("all have it", x.enter(0, 9), 0);
        x.op(2, COUNT, 1, 0);
        x.op(2, NEED, 14, 0);
        x.op(2, COUNT, 1, 0);
        DUE.is("one has not", x.enter(0, 9), 1);
        entered("one has not", x, 5, 1, 3, 3, 2, 2, 12, 1);
        DUE.is("the latest alone", x.enter(2, 9), 0);
        entered("the latest alone", x, 4, 2, 1, 1, NONE, NONE, 0, 0);
        RightsHouse y = house(0);
        y.op(0, NEED, 0, 0);
        DUE.is("nothing needed", y.enter(0, 9), 0);
    }

    private static int marked(int outer, int marking, int called, int rights, int needed) {
        RightsHouse x = house(outer, marking, called);
        x.op(0, CALL, 1, 0);
        x.op(1, MARK, 2, rights);
        x.op(2, NEED, needed, 0);
        int outcome = x.enter(0, 9);
        return outcome == 0 ? 0 : outcome * 100 + x.entered(6);
    }

    private static void marks() {
        DUE.is("no others are looked at", marked(0, 3, 3, 3, 3), 0);
        DUE.is("the ROOM of the one called", marked(7, 7, 1, 7, 3), 102);
        DUE.is("the RIGHTS told", marked(7, 7, 7, 2, 3), 101);
        DUE.is("the ROOM of the one that marked", marked(7, 2, 7, 7, 7), 105);
        DUE.is("in this order", marked(0, 1, 6, 5, 7), 101);
        DUE.is("RIGHTS ahead of who marked", marked(0, 1, 7, 5, 7), 102);
        RightsHouse x = house(0, 7, 7, 7);
        x.op(0, CALL, 1, 0);
        x.op(1, MARK, 2, 5);
        x.op(2, CALL, 3, 0);
        x.op(3, NEED, 5, 0);
        DUE.is("through a frame to the mark", x.enter(0, 9), 0);
        x.op(3, NEED, 2, 0);
        DUE.is("narrowed", x.enter(0, 9), 1);
        DUE.is("lacking", x.entered(6), 2);
        RightsHouse y = house(1, 7, 7);
        y.op(0, MARK, 1, 7);
        y.op(1, MARK, 2, 7);
        y.op(2, NEED, 7, 0);
        DUE.is("the first mark ends it", y.enter(0, 9), 0);
        y.op(1, NEED, 7, 0);
        DUE.is("the outer one", y.enter(0, 9), 1);
        entered("the outer one", y, 4, 0, 3, 3, 1, 1, 6, 1);
    }

    private static void tries() {
        RightsHouse x = house(1, 1, 1);
        x.op(0, TRY, 1, 0);
        x.op(0, COUNT, 100, 0);
        x.op(1, CALL, 2, 0);
        x.op(1, COUNT, 10, 0);
        x.op(2, COUNT, 1, 0);
        x.op(2, NEED, 2, 0);
        DUE.is("caught", x.enter(0, 99), 0);
        entered("caught", x, 5, 101, 3, 3, 2, 1, 2, 1);
        x.op(0, NEED, 4, 0);
        DUE.is("not caught", x.enter(0, 99), 1);
        entered("not caught", x, 6, 101, 3, 3, 0, 2, 4, 2);
        RightsHouse y = house(1, 1, 1);
        y.op(0, TRY, 1, 0);
        y.op(0, TRY, 1, 0);
        y.op(1, TRY, 2, 0);
        y.op(1, NEED, 8, 0);
        y.op(2, NEED, 4, 0);
        DUE.is("each by the latest TRY", y.enter(0, 99), 0);
        entered("each by the latest TRY", y, 8, 0, 5, 5, 1, 1, 8, 4);
    }

    private static void deep() {
        RightsHouse x = house(1);
        x.op(0, COUNT, 1, 0);
        x.op(0, CALL, 0, 0);
        DUE.is("DEEP", x.enter(0, 1000), 2);
        entered("DEEP", x, 40, 20, 20, 21, 0, 1, 0, 1);
        RightsHouse y = house(1, 1);
        y.op(0, NEED, 2, 0);
        y.op(1, TRY, 0, 0);
        y.op(1, CALL, 1, 0);
        DUE.is("DEEP behind REFUSED", y.enter(1, 1000), 2);
        DUE.is("lacking nothing", y.entered(6), 0);
        DUE.is("at method", y.entered(4), 1);
    }

    private static void deepCaught() {
        RightsHouse x = house(1);
        x.op(0, TRY, 0, 0);
        x.op(0, COUNT, 1, 0);
        DUE.is("each frame goes on", x.enter(0, 1000), 0);
        entered("each frame goes on", x, 40, 20, 20, 21, 0, 0, 0, 1);
    }

    /** 10: "No more than 20 frames: the 21st call throws DEEP likewise." */
    private static void deepest() {
        // Each method calls the next one, the last one counts.
        for (int depth = 10; depth <= 12; depth++) {
            RightsHouse x = house(1);
            for (int m = 1; m < depth; m++) {
                x.method(0);
            }
            for (int m = 0; m < depth - 1; m++) {
                x.op(m, CALL, m + 1, 0);
            }
            x.op(depth - 1, COUNT, 1, 0);
            DUE.is(depth + " deep", x.enter(0, 1000), 0);
            DUE.is("frames ENDED", x.entered(2), depth);
            // The first one tries itself behind that: in frame k the last one is frame k + depth - 1.
            x.op(0, TRY, 0, 0);
            DUE.is("each within the one ahead of it", x.enter(0, 1000), 0);
            DUE.is("as often as 20 frames let", x.entered(1), 20 - depth + 1);
            DUE.is("then DEEP, once", x.entered(7), 1);
            DUE.is("each call but that ENDED", x.entered(3) - x.entered(2), 1);
        }
        RightsHouse y = house(1, 3);
        y.op(0, MARK, 0, 7);
        DUE.is("by MARK", y.enter(0, 1000), 2);
        entered("by MARK", y, 20, 0, 20, 21, 0, 0, 0, 1);
        y.op(1, TRY, 0, 0);
        y.op(1, COUNT, 5, 0);
        DUE.is("caught further out", y.enter(1, 1000), 0);
        entered("caught further out", y, 21, 5, 20, 21, 0, 0, 0, 1);
    }

    /** 77: "with so many OPS at most (0 .. 1000)", each of them a call that ends. */
    private static void mostOps() {
        RightsHouse x = house(1, 1, 1, 1, 1);
        // 1 has 12 calls of 4, which is empty; 2 has 11 of 1, 143 in all; 3 has 10 of 1 and 2 of 4, 132 in all.
        for (int i = 0; i < 12; i++) {
            x.op(1, CALL, 4, 0);
            x.op(3, CALL, i < 10 ? 1 : 4, 0);
        }
        for (int i = 0; i < 11; i++) {
            x.op(2, CALL, 1, 0);
        }
        // 6 of 2 (864), 1 of 3 (133), 3 of 4: 1000
        for (int i = 0; i < 10; i++) {
            x.op(0, CALL, i < 6 ? 2 : i < 7 ? 3 : 4, 0);
        }
        DUE.is("1000 calls", x.enter(0, 1000), 0);
        entered("1000 calls", x, 1000, 0, 1001, 1001, NONE, NONE, 0, 0);
        DUE.is("one less", x.enter(0, 999), 3);
        entered("one less", x, 999, 0, 999, 1000, NONE, NONE, 0, 0);
        x.op(0, COUNT, 1, 0);
        DUE.is("one more", x.enter(0, 1000), 3);
        entered("one more", x, 1000, 0, 1000, 1001, NONE, NONE, 0, 0);
    }

    private static void limits() {
        RightsHouse x = house(1, 1);
        x.op(0, CALL, 1, 0);
        x.op(1, COUNT, 1, 0);
        x.op(1, COUNT, 1, 0);
        DUE.is("one more due", x.enter(0, 2), 3);
        entered("one more due", x, 2, 1, 0, 2, NONE, NONE, 0, 0);
        DUE.is("none", x.enter(0, 0), 3);
        entered("none", x, 0, 0, 0, 1, NONE, NONE, 0, 0);
        DUE.is("just so many", x.enter(0, 3), 0);
        RightsHouse y = house(1, 1, 1);
        for (int i = 0; i < 12; i++) {
            y.op(0, CALL, 1, 0);
            y.op(1, CALL, 2, 0);
        }
        DUE.is("many frames", y.enter(0, 1000), 0);
        entered("many frames", y, 156, 0, 157, 157, NONE, NONE, 0, 0);
        for (int i = 0; i < 12; i++) {
            y.op(2, CALL, 3, 0);
        }
        y.method(0);
        DUE.is("1000 ops", y.enter(0, 1000), 3);
        DUE.is("all of them", y.entered(0), 1000);
    }

    private static void missing() {
        RightsHouse x = house(1, 1);
        x.op(0, TRY, 1, 0);
        x.op(1, CALL, 2, 0);
        DUE.is("a METHOD that does not stand", x.enter(0, 9), 4);
        entered("a METHOD that does not stand", x, 2, 0, 0, 3, NONE, NONE, 0, 0);
        x.method(0);
        DUE.is("now it stands", x.enter(0, 9), 0);
        // The 21st call, of a METHOD that does not stand: as README reads it, that is asked for first.
        RightsHouse deep = house(1);
        deep.op(0, TRY, 0, 0);
        deep.op(0, CALL, 1, 0);
        DUE.is("too deep and not there", deep.enter(0, 99), 4);
        entered("too deep and not there", deep, 21, 0, 0, 22, 0, 0, 0, 1);
        for (int m = 2; m < 12; m++) {
            for (int kind : new int[] {CALL, MARK, TRY}) {
                RightsHouse y = house(1, 1);
                y.op(0, TRY, 1, 0);
                y.op(0, COUNT, 1, 0);
                y.op(1, kind, m, 1);
                DUE.is("METHOD " + m + " by " + kind, y.enter(0, 9), 4);
                entered("METHOD " + m + " by " + kind, y, 2, 0, 0, 3, NONE, NONE, 0, 0);
            }
        }
    }
}
