/**
 * Two houses to which the same calls are made, but for those that are refused: these are made to the first one alone,
 * and must leave it like the second one.
 */
final class Twins {
    /** A call that answers a number. */
    interface Call {
        long on(RightsHouse x);
    }

    private static final int NONE = RightsHouse.NONE;

    private final Due due;
    private final String name;
    private final RightsHouse all = new RightsHouse();
    private final RightsHouse others = new RightsHouse();

    Twins(Due due, String name) {
        this.due = due;
        this.name = name;
    }

    /** Two houses with something of each kind in them. */
    static Twins furnished(Due due, String name) {
        Twins twins = new Twins(due, name);
        furnish(twins.all);
        furnish(twins.others);
        return twins;
    }

    /**
     * NOW is 10. Persons 0 to 2, groups 0 to 2, rows 0 and 1; things 0, 1 (of 0), 2 (of nobody, in 1), 3 (GONE);
     * policies 0 (of two rules) and 1; laws 0 and 1, sessions 0 and 1; work 0 of two steps; lend 0; statements 0 and 1;
     * rooms 0 and 1, methods 0 and 1; three rows of the log; five bytes on the tape.
     */
    static void furnish(RightsHouse x) {
        for (int i = 0; i < 3; i++) {
            x.person();
            x.group();
        }
        x.thing(0, 0);
        x.thing(1, NONE);
        x.thing(0, 1);
        x.drop(3);
        x.put(0, 0, 0, 1000);
        x.put(100, 1, 5, 1000);
        x.feature(0, 0, 1, 3);
        x.item(0, 0, 1, 7);
        x.feature(101, 0, 1, 2);
        x.item(101, 0, 1, 8);
        x.feature(1, 1, 3, 2);
        Due.policy(x, 0, "yes g0 r any must 2; no any w t1/");
        Due.policy(x, 1, "maybe any all any");
        x.tick(10);
        x.inForce(0);
        x.ask(0, 0, 1);
        x.compare(0, 1);
        x.law(2, 0, 3);
        x.law(1, 0, 1);
        x.session(0);
        x.session(1);
        x.switchOn(0, 0);
        x.work();
        x.step(0, 0);
        x.step(0, 0);
        x.tie(0, 2, 2, 0);
        x.fill(0, 9);
        x.lend(0, 1, 0, 1, 100, 2, 5);
        x.stands(1, 0, 1, 10);
        x.key(0, 1, 1);
        x.key(1, 2, 4);
        x.label(0, 3);
        x.given(0, 4);
        x.statement(3, 0, 10, 0);
        x.statement(1, 1, 6, 0);
        x.flow(9);
        x.guarded(0, 5);
        x.sum(0, 3);
        x.room(3);
        x.room(1);
        x.method(0);
        x.method(1);
        x.op(0, 0, 1, 0);
        x.op(1, 2, 2, 0);
        x.enter(0, 9);
        x.feed(5, 0x1122334455L);
    }

    /** Made to both, to make them ready. */
    void both(Call call) {
        call.on(all);
        call.on(others);
    }

    /** Made to both, with the answer that is due. */
    void is(String told, Call call, long want) {
        due.is(name + ": " + told, call.on(all), want);
        due.is(name + ", without what was refused: " + told, call.on(others), want);
    }

    /** Made to the first one alone. */
    void refused(String told, Call call, long want) {
        due.is(name + ": " + told, call.on(all), want);
    }

    private void same(String told, Call call) {
        due.is(name + ": " + told + " behind what was refused", call.on(all), call.on(others));
    }

    /** Asks both for what there is, the number of the next one of each kind last. Nothing is asked of them behind it. */
    void alike() {
        latest();
        who();
        rights();
        flowsAndGates();
        nextOnes();
        changes();
    }

    private void latest() {
        same("tick(0)", x -> x.tick(0));
        same("broken()", x -> x.broken());
        same("tries()", x -> x.tries());
        same("wrong()", x -> x.wrong());
        for (int i = 0; i < 8; i++) {
            int what = i;
            same("entered(" + i + ")", x -> x.entered(what));
            same("lendOf(0, " + i + ")", x -> x.lendOf(0, what));
        }
        for (int i = 0; i < 6; i++) {
            int what = i;
            same("compared(" + i + ")", x -> x.compared(what));
        }
        for (int i = 0; i < 4; i++) {
            int what = i;
            same("made(" + i + ")", x -> x.made(what));
            same("rules(" + i + ")", x -> x.rules(what));
            same("logged(" + (i - 1) + ", 6)", x -> x.logged(what - 1, 6));
            same("chain(" + (i - 1) + ")", x -> x.chain(what - 1));
            same("gain(" + (i - 1) + ", 0)", x -> x.gain(what - 1, 0));
        }
    }

    private void who() {
        for (int i = 0; i < 24; i++) {
            int row = i / 6;
            int what = i % 6;
            same("rowOf(" + row + ", " + what + ")", x -> x.rowOf(row, what));
        }
        for (int i = 0; i < 20; i++) {
            int thing = i / 5;
            int what = i % 5;
            same("thingOf(" + thing + ", " + what + ")", x -> x.thingOf(thing, what));
        }
        for (int i = 0; i < 4; i++) {
            int place = i;
            same("itemOf(0, 0, 1, " + i + ")", x -> x.itemOf(0, 0, 1, place));
            same("itemOf(101, 0, 1, " + i + ")", x -> x.itemOf(101, 0, 1, place));
            same("itemOf(0, 1, 1, " + i + ")", x -> x.itemOf(0, 1, 1, place));
        }
        for (int i = 0; i < 36; i++) {
            int act = i / 6;
            int other = i % 6;
            same("doesHold(" + act + ", " + other + ")", x -> x.doesHold(act, other));
        }
    }

    private void rights() {
        for (int i = 0; i < 8; i++) {
            int n = i;
            same("knows(" + i / 2 + ", " + i % 2 + ")", x -> x.knows(n / 2, n % 2));
        }
        for (int i = 0; i < 6; i++) {
            int n = i;
            same("switchOff(" + i / 3 + ", " + i % 3 + ")", x -> x.switchOff(n / 3, n % 3));
        }
        same("filled(0, 0)", x -> x.filled(0, 0));
        same("filled(0, 1)", x -> x.filled(0, 1));
        same("breach(0)", x -> x.breach(0));
    }

    private void flowsAndGates() {
        same("tight()", x -> x.tight());
        same("lowered()", x -> x.lowered());
        same("said(10, 0)", x -> x.said(10, 0));
        for (int i = 0; i < 10; i++) {
            int v = i;
            same("variable(" + i + ")", x -> x.variable(v));
            same("given(" + i + ", 0)", x -> x.given(v, 0));
        }
        for (int i = 0; i < 14; i++) {
            int v = i;
            same("label(" + i + ", 0)", x -> x.label(v, 0));
        }
        for (int i = 10; i < 14; i++) {
            int channel = i;
            same("said(" + i + ", -1)", x -> x.said(channel, -1));
        }
    }

    private void nextOnes() {
        same("feed(1, 0)", x -> x.feed(1, 0));
        same("policy(0)", x -> x.policy(0));
        same("person()", x -> x.person());
        same("group()", x -> x.group());
        same("put(0, 2, 0, 9)", x -> x.put(0, 2, 0, 9));
        same("thing(0, NONE)", x -> x.thing(0, NONE));
        same("law(2, 0, 24)", x -> x.law(2, 0, 24));
        same("session(0)", x -> x.session(0));
        same("perform(0, 0, 0, 99)", x -> x.perform(0, 0, 0, 99));
        same("step(0, 0)", x -> x.step(0, 0));
        same("tie(0, 2, 8, 0)", x -> x.tie(0, 2, 8, 0));
        same("work()", x -> x.work());
        same("lend(0, 2, 0, 1, 1000000000, 0, -1)", x -> x.lend(0, 2, 0, 1, 1000000000, 0, -1));
        same("statement(1, 0, 0, 0)", x -> x.statement(1, 0, 0, 0));
        same("op(0, 4, 0, 0)", x -> x.op(0, 4, 0, 0));
        same("op(1, 4, 0, 0)", x -> x.op(1, 4, 0, 0));
        same("method(0)", x -> x.method(0));
        same("room(0)", x -> x.room(0));
    }

    private void changes() {
        same("inForce(0)", x -> x.inForce(0));
        same("ask(0, 0, 1)", x -> x.ask(0, 0, 1));
        same("askIn(0, 0, 1)", x -> x.askIn(0, 0, 1));
        same("sum(0, 3)", x -> x.sum(0, 3));
        for (int i = 0; i < 9; i++) {
            int from = i / 3;
            int to = i % 3;
            same("key(" + from + ", " + to + ", 0)", x -> x.key(from, to, 0));
        }
        for (int i = 0; i < 4; i++) {
            int p = i;
            same("guarded(" + i + ", 0)", x -> x.guarded(p, 0));
        }
        same("erase()", x -> x.erase());
    }
}
