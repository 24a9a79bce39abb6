/** Promises 1 to 4: a new object, feed, cut, tick. */
final class TapeTest {
    private static final Due DUE = new Due("TapeTest");

    public static void main(String[] args) {
        newObject();
        feedAndCut();
        lowestBytes();
        emptyTape();
        takenTape();
        tick();
        DUE.end();
    }

    private static void newObject() {
        RightsHouse x = new RightsHouse();
        DUE.is("new: NOW", x.tick(0), 0);
        DUE.is("new: place of THING 0", x.thingOf(0, 0), RightsHouse.NONE);
        DUE.is("new: owner of THING 0", x.thingOf(0, 1), RightsHouse.NONE);
        DUE.is("new: THING 0 CUT", x.thingOf(0, 2), 0);
        DUE.is("new: THING 0 GONE", x.thingOf(0, 3), 0);
        DUE.is("new: THING 0 DEPTH", x.thingOf(0, 4), 0);
        DUE.is("new: no THING 1", x.thingOf(1, 0), RightsHouse.BAD);
        DUE.is("new: no row", x.rowOf(0, 0), RightsHouse.BAD);
        DUE.is("new: no session's person", x.session(0), RightsHouse.BAD);
        DUE.is("new: nothing made", x.made(0), RightsHouse.NO);
        DUE.is("new: nothing compared", x.compared(0), RightsHouse.NO);
        DUE.is("new: nothing broken", x.broken(), RightsHouse.NONE);
        DUE.is("new: no tries", x.tries(), 0);
        DUE.is("new: no chain", x.chain(-1), 0);
        DUE.is("new: no gains", x.gain(-1, 0), 0);
        DUE.is("new: no statements", x.erase(), 0);
        DUE.is("new: nothing said", x.said(10, -1), 0);
        DUE.is("new: empty log", x.logged(-1, 0), 0);
        DUE.is("new: empty tape", x.cut(0), 0);
        DUE.is("BAD", RightsHouse.BAD, -1);
        DUE.is("NO", RightsHouse.NO, -2);
        DUE.is("FULL", RightsHouse.FULL, -3);
        DUE.is("NONE", RightsHouse.NONE, -4);
    }

    private static void feedAndCut() {
        RightsHouse x = new RightsHouse();
        DUE.is("feed(0)", x.feed(0, 1), RightsHouse.BAD);
        DUE.is("feed(9)", x.feed(9, 1), RightsHouse.BAD);
        DUE.is("feed(-1)", x.feed(-1, 1), RightsHouse.BAD);
        DUE.is("feed(3)", x.feed(3, 0x112233), 3);
        DUE.is("feed(1)", x.feed(1, 0xff44), 4);
        DUE.is("cut(5)", x.cut(5), RightsHouse.BAD);
        DUE.is("cut(-1)", x.cut(-1), RightsHouse.BAD);
        // The bytes themselves: 0x11223344, as c1 of a half of the secret 0.
        DUE.is("half(0, 1)", x.half(0, 1), 0x11223344);
        x.feed(8, 0x0000000500000007L);
        DUE.is("cut(4)", x.cut(4), 4);
        DUE.is("half(0, 1) of the first four bytes", x.half(0, 1), 5);
        for (int i = 1; i <= 150; i++) {
            DUE.is("feed(8) " + i, x.feed(8, -1), 8 * i);
        }
        DUE.is("feed(1) beyond 1200", x.feed(1, 0), RightsHouse.FULL);
        DUE.is("feed(0) ahead of FULL", x.feed(0, 0), RightsHouse.BAD);
        DUE.is("cut(1199)", x.cut(1199), 1);
        DUE.is("feed(2) beyond 1200", x.feed(2, 0), RightsHouse.FULL);
        DUE.is("feed(1) to 1200", x.feed(1, 0), 1200);
        DUE.is("cut(0)", x.cut(0), 1200);
    }

    /** 2: "The n lowest bytes of w, the highest of them first, come behind THE TAPE". */
    private static void lowestBytes() {
        long w = 0xf1f2f3f4f5f6f7f8L;
        for (int n = 1; n <= 8; n++) {
            RightsHouse x = new RightsHouse();
            int ahead = n <= 4 ? 4 - n : 8 - n;
            if (ahead > 0) {
                x.feed(ahead, 0);
            }
            DUE.is("feed(" + n + ")", x.feed(n, w), ahead + n);
            long low = n < 4 ? w & (1L << 8 * n) - 1 : w & 0xffffffffL;
            long high = n <= 4 ? 0 : w >>> 32 & (1L << 8 * (n - 4)) - 1;
            long due = n <= 4 ? 3 * low % 2147483647L : (3 * high + 9 * low) % 2147483647L;
            DUE.is("the bytes of feed(" + n + ")", x.half(0, 3), due);
        }
    }

    /** 3: "THE TAPE keeps its first n bytes: how many go", when there is none. */
    private static void emptyTape() {
        RightsHouse x = new RightsHouse();
        DUE.is("cut(0) of an empty one", x.cut(0), 0);
        DUE.is("cut(1) of an empty one", x.cut(1), RightsHouse.BAD);
        DUE.is("half of an empty one", x.half(5, 7), 5);
        DUE.is("joined of an empty one", x.joined(), RightsHouse.NO);
        DUE.is("policy of an empty one", x.policy(0), -10);
        DUE.is("feed behind it", x.feed(1, 0), 1);
    }

    /** "A call that says that it takes THE TAPE empties it, unless it is refused." */
    private static void takenTape() {
        RightsHouse x = new RightsHouse();
        Due.numbers(x, 1, 9);
        DUE.is("half, BAD", x.half(-1, 1), RightsHouse.BAD);
        DUE.is("leaves it", x.cut(8), 0);
        DUE.is("joined", x.joined(), 9);
        DUE.is("empties it", x.feed(1, 0), 1);
        DUE.is("half, NO", x.half(0, 1), RightsHouse.NO);
        DUE.is("joined, NO", x.joined(), RightsHouse.NO);
        DUE.is("leave it", x.feed(3, 2), 4);
        DUE.is("half", x.half(0, 1), 2);
        DUE.is("empties it", x.cut(0), 0);
        Due.text(x, "yes any r any");
        DUE.is("policy, BAD", x.policy(4), RightsHouse.BAD);
        DUE.is("leaves it", x.policy(0), 0);
        DUE.is("policy empties it", x.cut(0), 0);
        DUE.is("policy with a FAULT", Due.policy(x, 0, "yes any"), -17);
        DUE.is("empties it, too", x.cut(0), 0);
    }

    private static void tick() {
        RightsHouse x = new RightsHouse();
        DUE.is("tick(-1)", x.tick(-1), RightsHouse.BAD);
        DUE.is("tick(1000001)", x.tick(1000001), RightsHouse.BAD);
        DUE.is("tick(1000000)", x.tick(1000000), 1000000);
        DUE.is("tick(0)", x.tick(0), 1000000);
        DUE.is("tick(1)", x.tick(1), 1000001);
        DUE.is("what is BAD changes nothing", x.tick(1000001), RightsHouse.BAD);
        DUE.is("tick(1000000) again", x.tick(1000000), 2000001);
    }
}
