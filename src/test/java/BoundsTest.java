/**
 * REFUSALS: "BAD (a number is none such, or out of its bounds) .. they change nothing". For each argument of each call the
 * least and the greatest number that it may be; what is beyond them is BAD. The house is that of Twins.furnish().
 */
final class BoundsTest {
    private static final Due DUE = new Due("BoundsTest");
    private static final int BAD = RightsHouse.BAD, NONE = RightsHouse.NONE;
    private static final int MIN = Integer.MIN_VALUE, MAX = Integer.MAX_VALUE, LAST = 1000000000, PRIME = 2147483647;
    private static final int NOW = 10;

    /** A call with one number left open. */
    private interface Open {
        long on(RightsHouse x, int v);
    }

    public static void main(String[] args) {
        tape();
        rows();
        features();
        things();
        policies();
        requests();
        roles();
        works();
        lends();
        keys();
        flows();
        guard();
        gates();
        halves();
        log();
        DUE.end();
    }

    private static void bounds(String told, int least, int most, Open call) {
        taken(told, least, call);
        taken(told, most, call);
        bad(told, call, MIN, MIN + 1, least - 2, least - 1);
        bad(told, call, most + 1, most + 2, MAX - 1, MAX);
    }

    /** As bounds(), of a number that is bounded below alone. */
    private static void atLeast(String told, int least, Open call) {
        taken(told, least, call);
        taken(told, MAX, call);
        bad(told, call, MIN, MIN + 1, least - 2, least - 1);
    }

    private static void taken(String told, int v, Open call) {
        RightsHouse x = new RightsHouse();
        Twins.furnish(x);
        DUE.is(told + ", " + v + " is BAD", call.on(x, v) == BAD ? 1 : 0, 0);
    }

    private static void bad(String told, Open call, int... numbers) {
        Twins twins = Twins.furnished(DUE, told);
        for (int v : numbers) {
            twins.refused(told + ", " + v, x -> call.on(x, v), BAD);
        }
        twins.alike();
    }

    private static void tape() {
        bounds("2 feed: n", 1, 8, (x, v) -> x.feed(v, 0));
        bounds("3 cut: n", 0, 5, (x, v) -> x.cut(v));
        bounds("4 tick: n", 0, 1000000, (x, v) -> x.tick(v));
    }

    private static void rows() {
        bounds("7 put: member, a PERSON", 0, 2, (x, v) -> x.put(v, 0, 0, 9));
        bounds("7 put: member, a GROUP", 100, 102, (x, v) -> x.put(v, 1, 0, 9));
        bounds("7 put: group", 0, 2, (x, v) -> x.put(0, v, 0, 9));
        bounds("7 put: from", 0, LAST - 1, (x, v) -> x.put(0, 0, v, LAST));
        bounds("7 put: until, above from", 6, LAST, (x, v) -> x.put(0, 0, 5, v));
        bounds("8 back: row", 0, 1, (x, v) -> x.back(v));
        bounds("9 belongs: person", 0, 2, (x, v) -> x.belongs(v, 0, 0, 0));
        bounds("9 belongs: group", 0, 2, (x, v) -> x.belongs(0, v, 0, 0));
        bounds("9 belongs: t", 0, LAST, (x, v) -> x.belongs(0, 0, v, 0));
        bounds("9 belongs: known", 0, LAST, (x, v) -> x.belongs(0, 0, 0, v));
        bounds("10 rowOf: row", 0, 1, (x, v) -> x.rowOf(v, 0));
        bounds("10 rowOf: what", 0, 5, (x, v) -> x.rowOf(0, v));
    }

    private static void features() {
        bounds("11 feature: bearer, a PERSON", 0, 2, (x, v) -> x.feature(v, 0, 1, 1));
        bounds("11 feature: bearer, a THING, 3 being GONE", 100, 102, (x, v) -> x.feature(v, 0, 1, 1));
        bounds("11 feature: feature", 0, 7, (x, v) -> x.feature(0, v, 1, 1));
        bounds("11 feature: sort", 0, 3, (x, v) -> x.feature(0, 0, v, 1));
        bad("11 feature: n above 20", (x, v) -> x.feature(0, 0, 1, v), 21, 22, MAX - 1, MAX);
        taken("11 feature: n", 20, (x, v) -> x.feature(0, 0, 1, v));
        bounds("12 item: bearer, a PERSON", 0, 2, (x, v) -> x.item(v, 0, 0, 1));
        bounds("12 item: bearer, a THING", 100, 102, (x, v) -> x.item(v, 0, 0, 1));
        bounds("12 item: feature", 0, 7, (x, v) -> x.item(0, v, 0, 1));
        bounds("13 itemOf: bearer, a PERSON", 0, 2, (x, v) -> x.itemOf(v, 0, 1, 0));
        bounds("13 itemOf: bearer, a THING", 100, 102, (x, v) -> x.itemOf(v, 0, 1, 0));
        bounds("13 itemOf: feature", 0, 7, (x, v) -> x.itemOf(0, v, 1, 0));
        bounds("13 itemOf: sort", 1, 3, (x, v) -> x.itemOf(0, 0, v, 0));
        bounds("14 copy: bearer, a PERSON", 0, 2, (x, v) -> x.copy(v, 0, 0, 101, 0, 0, 1));
        bounds("14 copy: bearer, a THING", 100, 102, (x, v) -> x.copy(v, 0, 0, 101, 0, 0, 1));
        bounds("14 copy: feature", 0, 7, (x, v) -> x.copy(0, v, 0, 101, 0, 0, 1));
        bounds("14 copy: other, a PERSON", 0, 2, (x, v) -> x.copy(0, 0, 0, v, 0, 0, 1));
        bounds("14 copy: other, a THING", 100, 102, (x, v) -> x.copy(0, 0, 0, v, 0, 0, 1));
        bounds("14 copy: into", 0, 7, (x, v) -> x.copy(0, 0, 0, 101, v, 0, 1));
    }

    private static void things() {
        bounds("15 thing: place, 3 being GONE", 0, 2, (x, v) -> x.thing(v, 0));
        taken("15 thing: owner", NONE, (x, v) -> x.thing(0, v));
        bad("15 thing: owner, about NONE", (x, v) -> x.thing(0, v), NONE - 1, NONE + 1);
        bounds("15 thing: owner", 0, 2, (x, v) -> x.thing(0, v));
        bounds("16 move: thing, not 0", 1, 2, (x, v) -> x.move(v, 0));
        bounds("16 move: place", 0, 2, (x, v) -> x.move(2, v));
        bounds("17 cutOff: thing", 0, 2, (x, v) -> x.cutOff(v, true));
        bounds("18 drop: thing, not 0", 1, 2, (x, v) -> x.drop(v));
        bounds("19 thingOf: thing, GONE or not", 0, 3, (x, v) -> x.thingOf(v, 3));
        bounds("19 thingOf: what", 0, 4, (x, v) -> x.thingOf(1, v));
        bounds("20 under: thing", 0, 2, (x, v) -> x.under(v, 0));
        bounds("20 under: other", 0, 2, (x, v) -> x.under(2, v));
        bounds("21 holds: act", 0, 4, (x, v) -> x.holds(v, 5, true));
        bounds("21 holds: act, with another one", 1, 5, (x, v) -> x.holds(v, 0, false));
        bounds("21 holds: other", 0, 4, (x, v) -> x.holds(5, v, false));
        bounds("21 holds: other, with another one", 1, 5, (x, v) -> x.holds(0, v, true));
        for (int act = 0; act < 6; act++) {
            bad("21 holds: both the same", (x, v) -> x.holds(v, v, true), act);
            bad("21 holds: both the same, no more", (x, v) -> x.holds(v, v, false), act);
        }
        bounds("22 doesHold: act", 0, 5, (x, v) -> x.doesHold(v, 0));
        bounds("22 doesHold: other", 0, 5, (x, v) -> x.doesHold(0, v));
    }

    private static void policies() {
        bounds("23 policy: way", 0, 3, (x, v) -> x.policy(v));
        bounds("24 rules: policy", 0, 1, (x, v) -> x.rules(v));
        bounds("25 inForce: policy", 0, 1, (x, v) -> x.inForce(v));
        bounds("28 made: what", 0, 3, (x, v) -> x.made(v));
        bounds("31 compare: policy", 0, 1, (x, v) -> x.compare(v, 0));
        bounds("31 compare: other", 0, 1, (x, v) -> x.compare(0, v));
        bounds("32 compared: what", 0, 5, (x, v) -> x.compared(v));
        bounds("33 decides: policy", 0, 1, (x, v) -> x.decides(v, 0));
        bounds("33 decides: rule", 0, 1, (x, v) -> x.decides(0, v));
        bounds("33 decides: rule of another one", 0, 0, (x, v) -> x.decides(1, v));
    }

    private static void requests() {
        bounds("26 ask: who", 0, 2, (x, v) -> x.ask(v, 0, 0));
        bounds("26 ask: act", 0, 5, (x, v) -> x.ask(0, v, 0));
        bounds("26 ask: thing, 3 being GONE", 0, 2, (x, v) -> x.ask(0, 0, v));
        bounds("27 asked: policy", 0, 1, (x, v) -> x.asked(v, 0, 0, 0, 0));
        bounds("27 asked: who", 0, 2, (x, v) -> x.asked(0, v, 0, 0, 0));
        bounds("27 asked: act", 0, 5, (x, v) -> x.asked(0, 0, v, 0, 0));
        bounds("27 asked: thing", 0, 2, (x, v) -> x.asked(0, 0, 0, v, 0));
        bounds("27 asked: t", 0, LAST, (x, v) -> x.asked(0, 0, 0, 0, v));
        bounds("29 may: policy", 0, 1, (x, v) -> x.may(v, 0, 0, 0));
        bounds("29 may: who", 0, 2, (x, v) -> x.may(0, v, 0, 0));
        bounds("29 may: act", 0, 5, (x, v) -> x.may(0, 0, v, 0));
        atLeast("29 may: i", 0, (x, v) -> x.may(0, 0, 0, v));
        bounds("30 who: policy", 0, 1, (x, v) -> x.who(v, 0, 0, 0));
        bounds("30 who: act", 0, 5, (x, v) -> x.who(0, v, 0, 0));
        bounds("30 who: thing", 0, 2, (x, v) -> x.who(0, 0, v, 0));
        atLeast("30 who: i", 0, (x, v) -> x.who(0, 0, 0, v));
    }

    private static void roles() {
        bounds("34 law: kind", 0, 4, (x, v) -> x.law(v, 0, 1));
        bounds("34 law: MOST of a GROUP", 0, 2, (x, v) -> x.law(2, v, 20));
        bounds("34 law: MOST so many", 0, 24, (x, v) -> x.law(2, 0, v));
        for (int kind : new int[] {0, 1, 3}) {
            bounds("34 law: g of " + kind, 0, 1, (x, v) -> x.law(kind, v, 2));
            bounds("34 law: h of " + kind, 1, 2, (x, v) -> x.law(kind, 0, v));
            bad("34 law: the same of " + kind, (x, v) -> x.law(kind, v, v), 0, 1, 2);
        }
        bounds("34 law: g of GIVER", 0, 2, (x, v) -> x.law(4, v, 2));
        bounds("34 law: h of GIVER", 0, 2, (x, v) -> x.law(4, 0, v));
        for (int kind : new int[] {2, 4}) {
            taken("34 law: the same of " + kind, 1, (x, v) -> x.law(kind, v, v));
        }
        bounds("35 give: person", 0, 2, (x, v) -> x.give(v, 0, 0, 99));
        bounds("35 give: group", 0, 2, (x, v) -> x.give(0, v, 0, 99));
        bounds("35 give: by", 0, 2, (x, v) -> x.give(0, 0, v, 99));
        bounds("35 give: until, above NOW", NOW + 1, LAST, (x, v) -> x.give(0, 0, 0, v));
        bounds("36 take: person", 0, 2, (x, v) -> x.take(v, 0, 0));
        bounds("36 take: group", 0, 2, (x, v) -> x.take(0, v, 0));
        bounds("36 take: by", 0, 2, (x, v) -> x.take(0, 0, v));
        bounds("38 breach: l", 0, 2, (x, v) -> x.breach(v));
        bounds("39 session: person", 0, 2, (x, v) -> x.session(v));
        bounds("40 switchOn: session", 0, 1, (x, v) -> x.switchOn(v, 0));
        bounds("40 switchOn: group", 0, 2, (x, v) -> x.switchOn(0, v));
        bounds("41 switchOff: session", 0, 1, (x, v) -> x.switchOff(v, 0));
        bounds("41 switchOff: group", 0, 2, (x, v) -> x.switchOff(0, v));
        bounds("42 askIn: session", 0, 1, (x, v) -> x.askIn(v, 0, 0));
        bounds("42 askIn: act", 0, 5, (x, v) -> x.askIn(0, v, 0));
        bounds("42 askIn: thing", 0, 2, (x, v) -> x.askIn(0, 0, v));
    }

    private static void works() {
        bounds("44 step: work", 0, 0, (x, v) -> x.step(v, 0));
        bounds("44 step: group", 0, 2, (x, v) -> x.step(0, v));
        bounds("45 tie: work", 0, 0, (x, v) -> x.tie(v, 0, 0, 1));
        bounds("45 tie: kind, 2 being MOST 1", 0, 2, (x, v) -> x.tie(0, v, 1, 0));
        bounds("45 tie: MOST so many", 1, 8, (x, v) -> x.tie(0, 2, v, 0));
        for (int kind = 0; kind < 2; kind++) {
            int k = kind;
            bounds("45 tie: i of " + k, 0, 0, (x, v) -> x.tie(0, k, v, 1));
            bounds("45 tie: j of " + k, 1, 1, (x, v) -> x.tie(0, k, 0, v));
            bad("45 tie: i and j the same of " + k, (x, v) -> x.tie(0, k, v, v), 0, 1);
        }
        bounds("46 fill: work", 0, 0, (x, v) -> x.fill(v, 9));
        bounds("46 fill: tries", 1, 20000, (x, v) -> x.fill(0, v));
        bounds("47 filled: work", 0, 0, (x, v) -> x.filled(v, 0));
        bounds("47 filled: i", 0, 1, (x, v) -> x.filled(0, v));
        bounds("48 next: work", 0, 0, (x, v) -> x.next(v, 0, 0, 9));
        bounds("48 next: i", 0, 1, (x, v) -> x.next(0, v, 0, 9));
        bounds("48 next: person", 0, 2, (x, v) -> x.next(0, 0, v, 9));
        bounds("48 next: tries", 1, 20000, (x, v) -> x.next(0, 0, 0, v));
        bounds("49 perform: work", 0, 0, (x, v) -> x.perform(v, 0, 0, 9));
        bounds("49 perform: i", 0, 1, (x, v) -> x.perform(0, v, 0, 9));
        bounds("49 perform: person", 0, 2, (x, v) -> x.perform(0, 0, v, 9));
        bounds("49 perform: tries", 1, 20000, (x, v) -> x.perform(0, 0, 0, v));
        bounds("50 needed: work", 0, 0, (x, v) -> x.needed(v, 0, 9));
        bounds("50 needed: person", 0, 2, (x, v) -> x.needed(0, v, 9));
        bounds("50 needed: tries", 1, 20000, (x, v) -> x.needed(0, 0, v));
    }

    private static void lends() {
        bounds("52 lend: from", 0, 1, (x, v) -> x.lend(v, 2, 0, 1, 99, 0, -1));
        bounds("52 lend: to", 1, 2, (x, v) -> x.lend(0, v, 0, 1, 99, 0, -1));
        bad("52 lend: both the same", (x, v) -> x.lend(v, v, 0, 1, 99, 0, -1), 0, 1, 2);
        bounds("52 lend: act", 0, 5, (x, v) -> x.lend(0, 1, v, 1, 99, 0, -1));
        bounds("52 lend: thing, 3 being GONE", 0, 2, (x, v) -> x.lend(0, 1, 0, v, 99, 0, -1));
        bounds("52 lend: until, above NOW", NOW + 1, LAST, (x, v) -> x.lend(0, 1, 0, 1, v, 0, -1));
        bounds("52 lend: further", 0, 20, (x, v) -> x.lend(0, 1, 0, 1, 99, v, -1));
        atLeast("52 lend: uses", -1, (x, v) -> x.lend(0, 1, 0, 1, 99, 0, v));
        taken("52 lend: uses 0 may be", 0, (x, v) -> x.lend(0, 1, 0, 1, 99, 0, v));
        bounds("53 endLend: l", 0, 0, (x, v) -> x.endLend(v, 0));
        bounds("53 endLend: by", 0, 2, (x, v) -> x.endLend(0, v));
        bounds("54 stands: person", 0, 2, (x, v) -> x.stands(v, 0, 1, 0));
        bounds("54 stands: act", 0, 5, (x, v) -> x.stands(0, v, 1, 0));
        bounds("54 stands: thing, 3 being GONE", 0, 2, (x, v) -> x.stands(0, 0, v, 0));
        bounds("54 stands: t", 0, LAST, (x, v) -> x.stands(0, 0, 1, v));
        bounds("55 chain: i", -1, 0, (x, v) -> x.chain(v));
        bounds("56 useRight: person", 0, 2, (x, v) -> x.useRight(v, 0, 1));
        bounds("56 useRight: act", 0, 5, (x, v) -> x.useRight(0, v, 1));
        bounds("56 useRight: thing, 3 being GONE", 0, 2, (x, v) -> x.useRight(0, 0, v));
        bounds("57 lendOf: l", 0, 0, (x, v) -> x.lendOf(v, 0));
        bounds("57 lendOf: what", 0, 7, (x, v) -> x.lendOf(0, v));
    }

    private static void keys() {
        bounds("58 key: x", 0, 10, (x, v) -> x.key(v, 11, 1));
        bounds("58 key: x, on another one", 1, 11, (x, v) -> x.key(v, 0, 1));
        bounds("58 key: y", 0, 10, (x, v) -> x.key(11, v, 1));
        bounds("58 key: y, of another one", 1, 11, (x, v) -> x.key(0, v, 1));
        bounds("58 key: bits", 0, 15, (x, v) -> x.key(0, 1, v));
        for (int holder = 0; holder < 12; holder++) {
            bad("58 key: x and y the same", (x, v) -> x.key(v, v, 1), holder);
        }
        bounds("59 ever: x", 0, 11, (x, v) -> x.ever(v, 0, 1));
        bounds("59 ever: y", 0, 11, (x, v) -> x.ever(0, v, 1));
        bounds("59 ever: bits", 1, 15, (x, v) -> x.ever(0, 1, v));
        taken("59 ever: x and y the same", 11, (x, v) -> x.ever(v, v, 1));
        bounds("60 gain: i", -1, 0, (x, v) -> x.gain(v, 0));
        bounds("60 gain: what", 0, 2, (x, v) -> x.gain(0, v));
    }

    private static void flows() {
        bounds("61 label: v", 0, 13, (x, v) -> x.label(v, 1));
        bounds("61 label: readers", 0, 255, (x, v) -> x.label(0, v));
        bounds("62 statement: kind, b and c being right for none but one", 0, 5, (x, v) -> x.statement(v, 0, v == 3 ? 10 : 0, 0));
        for (int kind = 0; kind < 6; kind++) {
            int k = kind;
            bounds("62 statement: a of " + k, 0, 9, (x, v) -> x.statement(k, v, k == 3 ? 10 : 0, 0));
        }
        bounds("62 statement: b of SET", 0, 9, (x, v) -> x.statement(0, 0, v, 0));
        bounds("62 statement: c of SET", 0, 9, (x, v) -> x.statement(0, 0, 0, v));
        bounds("62 statement: n of IF", 0, 20, (x, v) -> x.statement(2, 0, v, 0));
        bounds("62 statement: CHANNEL of SAY", 10, 13, (x, v) -> x.statement(3, 0, v, 0));
        bounds("62 statement: b of LOWER", 0, 9, (x, v) -> x.statement(4, 0, v, 0));
        bounds("62 statement: by of LOWER", 0, 7, (x, v) -> x.statement(4, 0, 0, v));
        bounds("62 statement: n of WHILE", 0, 20, (x, v) -> x.statement(5, 0, v, 0));
        for (int v : new int[] {MIN, -1, 14, MAX}) {
            taken("62 statement: the number of KEEP", v, (x, n) -> x.statement(1, 0, n, 0));
            taken("62 statement: c of KEEP does not count", v, (x, n) -> x.statement(1, 0, 0, n));
            taken("62 statement: c of IF does not count", v, (x, n) -> x.statement(2, 0, 0, n));
            taken("62 statement: c of SAY does not count", v, (x, n) -> x.statement(3, 0, 10, n));
            taken("62 statement: c of WHILE does not count", v, (x, n) -> x.statement(5, 0, 0, n));
        }
        bounds("66 given: v", 0, 9, (x, v) -> x.given(v, 5));
        bounds("67 flow: most", 0, 2000, (x, v) -> x.flow(v));
        bounds("68 said: channel", 10, 13, (x, v) -> x.said(v, -1));
        bounds("68 said: i", -1, 0, (x, v) -> x.said(10, v));
        bad("68 said: i, where nothing went out", (x, v) -> x.said(11, v), -2, 0, 1);
        bounds("69 variable: v", 0, 9, (x, v) -> x.variable(v));
    }

    private static void guard() {
        bounds("70 guarded: person", 0, 2, (x, v) -> x.guarded(v, 6));
        bounds("71 sum: asker", 0, 3, (x, v) -> x.sum(v, 6));
        bounds("71 sum: set, of some of three PERSONS", 1, 7, (x, v) -> x.sum(1, v));
        for (long set : new long[] {0, 8, 11, 1L << 20, 1L << 31, 1L << 32, 3 | 1L << 32, 1L << 62, Long.MIN_VALUE, -1, Long.MAX_VALUE}) {
            bad("71 sum: set " + Long.toHexString(set), (x, v) -> x.sum(v, set), 0, 1);
        }
        bounds("72 share: asker", 0, 2, (x, v) -> x.share(v, 3));
        bounds("72 share: other", 1, 3, (x, v) -> x.share(0, v));
        bad("72 share: the same", (x, v) -> x.share(v, v), 0, 1, 2, 3);
        bounds("73 knows: asker", 0, 3, (x, v) -> x.knows(v, 0));
        bounds("73 knows: what", 0, 1, (x, v) -> x.knows(0, v));
    }

    private static void gates() {
        bounds("74 room: rights", 0, 65535, (x, v) -> x.room(v));
        bounds("75 method: room", 0, 1, (x, v) -> x.method(v));
        bounds("76 op: method", 0, 1, (x, v) -> x.op(v, 4, 0, 0));
        bounds("76 op: kind", 0, 4, (x, v) -> x.op(0, v, 0, 0));
        bounds("76 op: METHOD of CALL, standing or not", 0, 11, (x, v) -> x.op(0, 0, v, 0));
        bounds("76 op: METHOD of MARK, standing or not", 0, 11, (x, v) -> x.op(0, 1, v, 0));
        bounds("76 op: RIGHTS of MARK", 0, 65535, (x, v) -> x.op(0, 1, 0, v));
        bounds("76 op: RIGHTS of NEED", 0, 65535, (x, v) -> x.op(0, 2, v, 0));
        bounds("76 op: METHOD of TRY, standing or not", 0, 11, (x, v) -> x.op(0, 3, v, 0));
        for (int v : new int[] {MIN, -1, 65536, MAX}) {
            taken("76 op: n of COUNT", v, (x, n) -> x.op(0, 4, n, 0));
            for (int kind : new int[] {0, 2, 3, 4}) {
                taken("76 op: b of " + kind, v, (x, n) -> x.op(0, kind, 0, n));
            }
        }
        bounds("77 enter: method", 0, 1, (x, v) -> x.enter(v, 9));
        bounds("77 enter: ops", 0, 1000, (x, v) -> x.enter(0, v));
        bounds("78 entered: what", 0, 7, (x, v) -> x.entered(v));
    }

    private static void halves() {
        Open ofEmptyTape = (x, v) -> {
            x.cut(0);
            return x.half(v, 1);
        };
        taken("79 half: secret", 0, ofEmptyTape);
        taken("79 half: secret", PRIME - 1, ofEmptyTape);
        bad("79 half: secret", (x, v) -> x.half(v, 1), MIN, -2, -1, PRIME);
        taken("79 half: i", 1, (x, v) -> x.half(0, v));
        taken("79 half: i", 1000, (x, v) -> x.half(0, v));
        bad("79 half: i", (x, v) -> x.half(0, v), MIN, -1, 0, 1001, 1002, MAX);
    }

    private static void log() {
        bounds("81 logged: i", -1, 2, (x, v) -> x.logged(v, 0));
        bounds("81 logged: what", 0, 6, (x, v) -> x.logged(0, v));
        bounds("82 forge: i", 0, 2, (x, v) -> x.forge(v, 0, 5));
        bounds("82 forge: what", 0, 5, (x, v) -> x.forge(0, v, 5));
        bad("82 forge: the SUM", (x, v) -> x.forge(0, v, 5), 6);
        bounds("84 sealed: n", 0, 3, (x, v) -> x.sealed(v, 1));
        bounds("85 could: act", 0, 5, (x, v) -> x.could(v, 0, 0, 0));
        bounds("85 could: thing, 3 being GONE", 0, 2, (x, v) -> x.could(0, v, 0, 0));
        bounds("85 could: t, not above NOW", 0, NOW, (x, v) -> x.could(0, 0, v, 0));
        atLeast("85 could: i", 0, (x, v) -> x.could(0, 0, 0, v));
    }
}
