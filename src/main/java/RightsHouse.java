/**
 * A house of rights; ../shared/DOC.md says what each call answers.
 *
 * <p>Every row is made in a constructor and used again, so that no call makes an object.
 */
public final class RightsHouse {
    public static final int BAD = -1, NO = -2, FULL = -3, NONE = -4;

    private static final int LAST_MOMENT = 1000000000;
    private static final int MOST_TICKS = 1000000;
    private static final int TAPE_BYTES = 1200;
    private static final int MOST_FORCES = 40;
    private static final int PRIME = 2147483647;
    private static final int HOW_MANY = -1;

    private static final int FAILED = -10;
    private static final int NOTHING_THERE = 1, NO_PLACE = 2, BELOW_ZERO = 3, OTHER_SORT = 4, BY_ZERO = 5;

    private static final int LOG_ROWS = 300, LOG_COLUMNS = 7, LOG_SUM = 6;
    private static final int LOG_ASK = 0, LOG_FORCE = 1, LOG_GIVE = 2, LOG_LEND = 3;

    private final int[] tape;
    private int tapeLength;
    private int now;
    private final int[] forceFrom;
    private final int[] forcePolicy;
    private int forces;
    private final int[] log;
    private int logRows;
    private final Who people;
    private final Things things;
    private final Policies policies;
    private final Judge judge;
    private final Roles roles;
    private final Works works;
    private final Lends lends;
    private final Flows flows;
    private final Guard guard;
    private final Gates gates;

    public RightsHouse() {
        tape = new int[TAPE_BYTES];
        forceFrom = new int[MOST_FORCES];
        forcePolicy = new int[MOST_FORCES];
        log = new int[LOG_ROWS * LOG_COLUMNS];
        people = new Who();
        things = new Things();
        policies = new Policies(people, things);
        judge = new Judge(people, things, policies);
        roles = new Roles(people);
        works = new Works(people);
        lends = new Lends(things);
        flows = new Flows();
        guard = new Guard();
        gates = new Gates();
    }

    // ---- the tape and the moment

    public int feed(int n, long w) {
        if (n < 1 || n > 8) {
            return BAD;
        }
        if (tapeLength + n > TAPE_BYTES) {
            return FULL;
        }
        for (int i = n - 1; i >= 0; i--) {
            tape[tapeLength] = (int) (w >>> (8 * i)) & 255;
            tapeLength++;
        }
        return tapeLength;
    }

    public int cut(int n) {
        if (n < 0 || n > tapeLength) {
            return BAD;
        }
        int gone = tapeLength - n;
        tapeLength = n;
        return gone;
    }

    public int tick(int n) {
        if (n < 0 || n > MOST_TICKS) {
            return BAD;
        }
        if (now + n > LAST_MOMENT) {
            return NO;
        }
        now += n;
        return now;
    }

    private static boolean isMoment(int t) {
        return t >= 0 && t <= LAST_MOMENT;
    }

    private static boolean isAct(int act) {
        return act >= 0 && act < Things.ACTS;
    }

    private static boolean isAmong(int i, int count) {
        return i >= 0 && i < count;
    }

    // ---- who

    public int person() {
        if (people.persons >= Who.PERSONS) {
            return FULL;
        }
        people.persons++;
        return people.persons - 1;
    }

    public int group() {
        if (people.groups >= Who.GROUPS) {
            return FULL;
        }
        people.groups++;
        return people.groups - 1;
    }

    public int put(int member, int group, int from, int until) {
        if (!people.isMember(member) || !people.isGroup(group) || !isMoment(from) || !isMoment(until) || until <= from) {
            return BAD;
        }
        if (people.wouldRing(member, group)) {
            return NO;
        }
        if (people.rows >= Who.ROWS) {
            return FULL;
        }
        return people.addRow(member, group, from, until, now);
    }

    public int back(int row) {
        if (!isAmong(row, people.rows)) {
            return BAD;
        }
        if (!people.isLasting(row)) {
            return NO;
        }
        people.endRow(row, now);
        return 1;
    }

    public int belongs(int person, int group, int t, int known) {
        if (!people.isPerson(person) || !people.isGroup(group) || !isMoment(t) || !isMoment(known)) {
            return BAD;
        }
        return people.groupsOf(person, t, known) >> group & 1;
    }

    public int rowOf(int row, int what) {
        if (!isAmong(row, people.rows) || !isAmong(what, Who.ROW_COLUMNS)) {
            return BAD;
        }
        return people.row[row * Who.ROW_COLUMNS + what];
    }

    /** NONE when there is no such bearer now, or no such feature. */
    private int slotOf(int bearer, int feature) {
        if (!isAmong(feature, Who.FEATURES)) {
            return NONE;
        }
        if (people.isPerson(bearer)) {
            return Who.slotOfPerson(bearer, feature);
        }
        if (bearer >= Who.OTHERS && things.isThere(bearer - Who.OTHERS)) {
            return Who.slotOfThing(bearer - Who.OTHERS, feature);
        }
        return NONE;
    }

    public int feature(int bearer, int feature, int sort, int n) {
        int slot = slotOf(bearer, feature);
        if (slot == NONE || sort < Who.NOTHING || sort > Who.MARKS) {
            return BAD;
        }
        int length = sort == Who.NOTHING ? 0 : n;
        if (length > Who.ITEMS) {
            return BAD;
        }
        if (length < 0) {
            return FAILED - BELOW_ZERO;
        }
        people.setFeature(slot, sort, length);
        return length;
    }

    public int item(int bearer, int feature, int i, long v) {
        int slot = slotOf(bearer, feature);
        if (slot == NONE) {
            return BAD;
        }
        if (people.sort[slot] == Who.NOTHING) {
            return FAILED - NOTHING_THERE;
        }
        if (!isAmong(i, people.size[slot])) {
            return FAILED - NO_PLACE;
        }
        people.setItem(slot, i, v);
        return 1;
    }

    public long itemOf(int bearer, int feature, int sort, int i) {
        int slot = slotOf(bearer, feature);
        if (slot == NONE || sort < Who.WHOLES || sort > Who.MARKS) {
            return BAD;
        }
        if (people.sort[slot] == Who.NOTHING) {
            return FAILED - NOTHING_THERE;
        }
        if (people.sort[slot] != sort) {
            return FAILED - OTHER_SORT;
        }
        if (!isAmong(i, people.size[slot])) {
            return FAILED - NO_PLACE;
        }
        return people.item[slot * Who.ITEMS + i];
    }

    public int copy(int bearer, int feature, int i, int other, int into, int j, int n) {
        int from = slotOf(bearer, feature);
        int to = slotOf(other, into);
        if (from == NONE || to == NONE) {
            return BAD;
        }
        if (people.sort[from] == Who.NOTHING || people.sort[to] == Who.NOTHING) {
            return FAILED - NOTHING_THERE;
        }
        if (people.sort[from] != people.sort[to]) {
            return FAILED - OTHER_SORT;
        }
        if (!people.hasItems(from, i, n) || !people.hasItems(to, j, n)) {
            return FAILED - NO_PLACE;
        }
        System.arraycopy(people.item, from * Who.ITEMS + i, people.item, to * Who.ITEMS + j, n);
        return n;
    }

    // ---- things

    public int thing(int place, int owner) {
        if (!things.isThere(place) || owner != NONE && !people.isPerson(owner)) {
            return BAD;
        }
        if (things.things >= Things.THINGS) {
            return FULL;
        }
        return things.add(place, owner);
    }

    public int move(int thing, int place) {
        if (thing == 0 || !things.isThere(thing) || !things.isThere(place)) {
            return BAD;
        }
        if (things.isInside(place, thing)) {
            return NO;
        }
        things.place[thing] = place;
        return 1;
    }

    public int cutOff(int thing, boolean is) {
        if (!things.isThere(thing)) {
            return BAD;
        }
        boolean isNew = things.isCut[thing] != is;
        things.isCut[thing] = is;
        return isNew ? 1 : 0;
    }

    public int drop(int thing) {
        if (thing == 0 || !things.isThere(thing)) {
            return BAD;
        }
        if (things.bearsAny(thing)) {
            return NO;
        }
        things.isGone[thing] = true;
        return 1;
    }

    public int thingOf(int thing, int what) {
        if (!isAmong(thing, things.things)) {
            return BAD;
        }
        switch (what) {
            case 0:
                return things.place[thing];
            case 1:
                return things.owner[thing];
            case 2:
                return things.isCut[thing] ? 1 : 0;
            case 3:
                return things.isGone[thing] ? 1 : 0;
            case 4:
                return things.depthOf(thing);
            default:
                return BAD;
        }
    }

    public int under(int thing, int other) {
        if (!things.isThere(thing) || !things.isThere(other)) {
            return BAD;
        }
        return things.isUnder(thing, other) ? 1 : 0;
    }

    public int holds(int act, int other, boolean is) {
        if (!isAct(act) || !isAct(other) || act == other) {
            return BAD;
        }
        return things.tellHolds(act, other, is) ? 1 : 0;
    }

    public int doesHold(int act, int other) {
        if (!isAct(act) || !isAct(other)) {
            return BAD;
        }
        return things.actHolds(act, other) ? 1 : 0;
    }

    // ---- rules

    public int policy(int way) {
        if (way < 0 || way > 3) {
            return BAD;
        }
        if (policies.policies >= Policies.POLICIES) {
            return FULL;
        }
        int length = tapeLength;
        tapeLength = 0;
        int fault = policies.read(tape, length, way);
        return fault == NONE ? policies.policies - 1 : FAILED - fault;
    }

    public int rules(int policy) {
        return isAmong(policy, policies.policies) ? policies.rules[policy] : BAD;
    }

    public int inForce(int policy) {
        if (!isAmong(policy, policies.policies)) {
            return BAD;
        }
        if (forces >= MOST_FORCES) {
            return FULL;
        }
        forceFrom[forces] = now;
        forcePolicy[forces] = policy;
        forces++;
        writeLog(LOG_FORCE, policy, 0, 0, 1);
        return 1;
    }

    private int policyInForce(int t) {
        for (int i = forces - 1; i >= 0; i--) {
            if (forceFrom[i] <= t) {
                return forcePolicy[i];
            }
        }
        return NONE;
    }

    private boolean isRequest(int person, int act, int thing) {
        return people.isPerson(person) && isAct(act) && things.isThere(thing);
    }

    public int ask(int who, int act, int thing) {
        if (!isRequest(who, act, thing)) {
            return BAD;
        }
        judge.setMoment(now, now);
        judge.setPerson(who, people.groupsOf(who, now, now));
        int answer = judge.answerKept(policyInForce(now), act, thing);
        writeLog(LOG_ASK, who, act, thing, answer);
        return answer;
    }

    public int asked(int policy, int who, int act, int thing, int t) {
        if (!isAmong(policy, policies.policies) || !isRequest(who, act, thing) || !isMoment(t)) {
            return BAD;
        }
        judge.setMoment(t, now);
        judge.setPerson(who, people.groupsOf(who, t, now));
        return judge.answerKept(policy, act, thing);
    }

    public int made(int what) {
        if (!isAmong(what, Judge.MADE)) {
            return BAD;
        }
        return judge.hasMade ? judge.made[what] : NO;
    }

    public int may(int policy, int who, int act, int i) {
        if (!isAmong(policy, policies.policies) || !people.isPerson(who) || !isAct(act) || i < 0) {
            return BAD;
        }
        judge.setMoment(now, now);
        judge.setPerson(who, people.groupsOf(who, now, now));
        return judge.thingAllowed(policy, act, i);
    }

    public int who(int policy, int act, int thing, int i) {
        if (!isAmong(policy, policies.policies) || !isAct(act) || !things.isThere(thing) || i < 0) {
            return BAD;
        }
        judge.setMoment(now, now);
        return judge.personAllowed(policy, act, thing, i);
    }

    public int compare(int policy, int other) {
        if (!isAmong(policy, policies.policies) || !isAmong(other, policies.policies)) {
            return BAD;
        }
        if (judge.sweeps >= Judge.MOST_SWEEPS) {
            return FULL;
        }
        judge.setMoment(now, now);
        return judge.differences(policy, other);
    }

    public int compared(int what) {
        if (!isAmong(what, Judge.COMPARED)) {
            return BAD;
        }
        return judge.hasCompared ? judge.compared[what] : NO;
    }

    public int decides(int policy, int rule) {
        if (!isAmong(policy, policies.policies) || !isAmong(rule, policies.rules[policy])) {
            return BAD;
        }
        if (judge.sweeps >= Judge.MOST_SWEEPS) {
            return FULL;
        }
        judge.setMoment(now, now);
        return judge.decidedBy(policy, rule);
    }

    // ---- roles

    public int law(int kind, int g, int h) {
        if (kind < Roles.APART || kind > Roles.GIVER || !people.isGroup(g)) {
            return BAD;
        }
        boolean fits = kind == Roles.MOST ? h >= 0 && h <= Roles.MOST_PERSONS : people.isGroup(h);
        if (!fits || g == h && kind != Roles.MOST && kind != Roles.GIVER) {
            return BAD;
        }
        return roles.laws >= Roles.LAWS ? FULL : roles.addLaw(kind, g, h);
    }

    public int give(int person, int group, int by, int until) {
        if (!people.isPerson(person) || !people.isGroup(group) || !people.isPerson(by)) {
            return BAD;
        }
        if (until <= now || until > LAST_MOMENT) {
            return BAD;
        }
        int row = roles.giveRow(person, group, by, until, now);
        if (row >= 0) {
            writeLog(LOG_GIVE, person, group, by, row);
        }
        return row;
    }

    public int take(int person, int group, int by) {
        if (!people.isPerson(person) || !people.isGroup(group) || !people.isPerson(by)) {
            return BAD;
        }
        if (roles.refusingGiver(group, by, now) != NONE) {
            return NO;
        }
        return people.endRows(person, group, now);
    }

    public int broken() {
        return roles.brokenLaw;
    }

    public int breach(int l) {
        if (l < 0 || l > roles.laws) {
            return BAD;
        }
        return roles.firstNotHolding(l, Roles.ALL_KINDS, now);
    }

    public int session(int person) {
        if (!people.isPerson(person)) {
            return BAD;
        }
        return roles.sessions >= Roles.SESSIONS ? FULL : roles.addSession(person);
    }

    public int switchOn(int session, int group) {
        if (!isAmong(session, roles.sessions) || !people.isGroup(group)) {
            return BAD;
        }
        return roles.turnOn(session, group, now);
    }

    public int switchOff(int session, int group) {
        if (!isAmong(session, roles.sessions) || !people.isGroup(group)) {
            return BAD;
        }
        int was = roles.on[session] >> group & 1;
        roles.on[session] &= ~(1 << group);
        return was;
    }

    public int askIn(int session, int act, int thing) {
        if (!isAmong(session, roles.sessions) || !isAct(act) || !things.isThere(thing)) {
            return BAD;
        }
        judge.setMoment(now, now);
        judge.setPerson(roles.sessionPerson[session], roles.groupsIn(session, now));
        return judge.answerKept(policyInForce(now), act, thing);
    }

    // ---- works

    public int work() {
        if (works.works >= Works.WORKS) {
            return FULL;
        }
        works.works++;
        return works.works - 1;
    }

    public int step(int work, int group) {
        if (!isAmong(work, works.works) || !people.isGroup(group)) {
            return BAD;
        }
        return works.steps[work] >= Works.STEPS ? FULL : works.addStep(work, group);
    }

    public int tie(int work, int kind, int i, int j) {
        if (!isAmong(work, works.works) || kind < Works.UNLIKE || kind > Works.MOST) {
            return BAD;
        }
        int steps = works.steps[work];
        boolean fits = kind == Works.MOST ? i >= 1 && i <= Works.STEPS : isAmong(i, steps) && isAmong(j, steps) && i != j;
        if (!fits) {
            return BAD;
        }
        return works.ties[work] >= Works.TIES ? FULL : works.addTie(work, kind, i, j);
    }

    private boolean isSearch(int work, int tries) {
        return isAmong(work, works.works) && tries >= 1 && tries <= Works.MOST_TRIES;
    }

    public int fill(int work, int tries) {
        if (!isSearch(work, tries)) {
            return BAD;
        }
        works.prepare(work, NONE, now);
        int found = works.search(tries);
        if (found == 1) {
            works.keep();
        }
        return found;
    }

    public int filled(int work, int i) {
        if (!isAmong(work, works.works) || !isAmong(i, works.steps[work])) {
            return BAD;
        }
        return works.kept[work * Works.STEPS + i];
    }

    public int next(int work, int i, int person, int tries) {
        if (!isSearch(work, tries) || !isAmong(i, works.steps[work]) || !people.isPerson(person)) {
            return BAD;
        }
        if (works.done[work * Works.STEPS + i] != NONE) {
            return NO;
        }
        works.prepare(work, NONE, now);
        return works.searchWith(i, person, tries);
    }

    public int perform(int work, int i, int person, int tries) {
        int found = next(work, i, person, tries);
        if (found == 1) {
            works.done[work * Works.STEPS + i] = person;
        }
        return found;
    }

    public int needed(int work, int person, int tries) {
        if (!isSearch(work, tries) || !people.isPerson(person)) {
            return BAD;
        }
        works.prepare(work, NONE, now);
        int found = works.search(tries);
        if (found != 1) {
            return found;
        }
        if (works.hasDone(work, person)) {
            works.tried = 0;
            return 1;
        }
        works.prepare(work, person, now);
        int without = works.search(tries);
        return without == 2 ? 2 : 1 - without;
    }

    public int tries() {
        return works.tried;
    }

    // ---- lends

    public int lend(int from, int to, int act, int thing, int until, int further, int uses) {
        if (!isRequest(from, act, thing) || !people.isPerson(to) || from == to) {
            return BAD;
        }
        if (until <= now || until > LAST_MOMENT || further < 0 || further > Lends.MOST_FURTHER || uses < -1) {
            return BAD;
        }
        lends.weighAll(now);
        if (!lends.hasRight(from, act, thing, further + 1)) {
            return NO;
        }
        if (lends.lends >= Lends.LENDS) {
            return FULL;
        }
        int l = lends.add(from, to, act, thing, until, further, uses);
        writeLog(LOG_LEND, from, to, l, l);
        return l;
    }

    public int endLend(int l, int by) {
        if (!isAmong(l, lends.lends) || !people.isPerson(by)) {
            return BAD;
        }
        int row = l * Lends.COLUMNS;
        boolean mayEnd = lends.lend[row + Lends.FROM] == by || things.owner[lends.lend[row + Lends.THING]] == by;
        if (lends.lend[row + Lends.TAKEN] == 1 || !mayEnd) {
            return NO;
        }
        lends.lend[row + Lends.TAKEN] = 1;
        return 1;
    }

    public int stands(int person, int act, int thing, int t) {
        if (!isRequest(person, act, thing) || !isMoment(t)) {
            return BAD;
        }
        lends.weighAll(t);
        return lends.keepChain(person, act, thing) ? 1 : 0;
    }

    public int chain(int i) {
        if (i == HOW_MANY) {
            return lends.chainLength;
        }
        return isAmong(i, lends.chainLength) ? lends.chain[i] : BAD;
    }

    public int useRight(int person, int act, int thing) {
        if (!isRequest(person, act, thing)) {
            return BAD;
        }
        lends.weighAll(now);
        if (!lends.keepChain(person, act, thing)) {
            return NO;
        }
        lends.spendChain();
        return 1;
    }

    public int lendOf(int l, int what) {
        if (!isAmong(l, lends.lends) || !isAmong(what, Lends.COLUMNS)) {
            return BAD;
        }
        return lends.lend[l * Lends.COLUMNS + what];
    }

    // ---- keys

    private static boolean isHolder(int x) {
        return x >= 0 && x < Lends.HOLDERS;
    }

    public int key(int x, int y, int bits) {
        if (!isHolder(x) || !isHolder(y) || x == y || bits < 0 || bits > Lends.ALL_BITS) {
            return BAD;
        }
        return lends.setKey(x, y, bits);
    }

    public int ever(int x, int y, int bits) {
        if (!isHolder(x) || !isHolder(y) || bits < 1 || bits > Lends.ALL_BITS) {
            return BAD;
        }
        return lends.gainsUntil(x, y, bits);
    }

    public int gain(int i, int what) {
        int gains = lends.countGains();
        if (i == HOW_MANY) {
            return gains;
        }
        if (!isAmong(i, gains) || !isAmong(what, Lends.GAIN_COLUMNS)) {
            return BAD;
        }
        return lends.gain[i * Lends.GAIN_COLUMNS + what];
    }

    // ---- flows

    public int label(int v, int readers) {
        if (!isAmong(v, Flows.LABELS) || readers < 0 || readers > Flows.ALL_READERS) {
            return BAD;
        }
        int was = flows.label[v];
        flows.label[v] = readers;
        return was;
    }

    public int statement(int kind, int a, int b, int c) {
        if (!Flows.isStatement(kind, a, b, c)) {
            return BAD;
        }
        if (flows.reachesOut(kind, b)) {
            return NO;
        }
        return flows.statements >= Flows.STATEMENTS ? FULL : flows.addStatement(kind, a, b, c);
    }

    public int erase() {
        int was = flows.statements;
        flows.statements = 0;
        return was;
    }

    public int tight() {
        return flows.firstLoose();
    }

    public int lowered() {
        return flows.countLowers() * 32;
    }

    public int given(int v, int number) {
        if (!isAmong(v, Flows.VARIABLES)) {
            return BAD;
        }
        int was = flows.given[v];
        flows.given[v] = number;
        return was;
    }

    public int flow(int most) {
        if (most < 0 || most > Flows.MOST_STEPS) {
            return BAD;
        }
        return flows.run(most);
    }

    public int said(int channel, int i) {
        if (channel < Flows.VARIABLES || channel >= Flows.LABELS) {
            return BAD;
        }
        int c = channel - Flows.VARIABLES;
        if (i == HOW_MANY) {
            return flows.saidCount[c];
        }
        return isAmong(i, flows.saidCount[c]) ? flows.said[c * Flows.MOST_SAID + i] : BAD;
    }

    public int variable(int v) {
        return isAmong(v, Flows.VARIABLES) ? flows.value[v] : BAD;
    }

    // ---- guarded sums

    private static boolean isAsker(int asker) {
        return asker >= 0 && asker < Guard.ASKERS;
    }

    public long guarded(int person, long number) {
        if (!people.isPerson(person)) {
            return BAD;
        }
        long was = guard.number[person];
        guard.number[person] = number;
        return was;
    }

    public long sum(int asker, long set) {
        if (!isAsker(asker) || set <= 0 || set >> people.persons != 0) {
            return BAD;
        }
        int persons = (int) set;
        if (guard.wasTold(asker, persons)) {
            return guard.total(persons);
        }
        if (guard.toldCount[asker] >= Guard.MOST_TOLD) {
            return FULL;
        }
        if (guard.wouldReveal(guard.circle[asker], persons)) {
            return NO;
        }
        guard.tell(asker, persons);
        return guard.total(persons);
    }

    public int share(int asker, int other) {
        if (!isAsker(asker) || !isAsker(other) || asker == other) {
            return BAD;
        }
        if ((guard.circle[asker] >> other & 1) == 1) {
            return 0;
        }
        int both = guard.circle[asker] | guard.circle[other];
        if (guard.wouldReveal(both, 0)) {
            return NO;
        }
        guard.join(both);
        return 1;
    }

    public int knows(int asker, int what) {
        if (!isAsker(asker) || what < 0 || what > 1) {
            return BAD;
        }
        return what == 0 ? guard.countSets(guard.circle[asker]) : guard.rankOf(guard.circle[asker]);
    }

    // ---- gates

    public int room(int rights) {
        if (!Gates.areRights(rights)) {
            return BAD;
        }
        return gates.rooms >= Gates.ROOMS ? FULL : gates.addRoom(rights);
    }

    public int method(int room) {
        if (!isAmong(room, gates.rooms)) {
            return BAD;
        }
        return gates.methods >= Gates.METHODS ? FULL : gates.addMethod(room);
    }

    public int op(int method, int kind, int a, int b) {
        if (!isAmong(method, gates.methods) || !Gates.isOp(kind, a, b)) {
            return BAD;
        }
        return gates.ops[method] >= Gates.OPS ? FULL : gates.addOp(method, kind, a, b);
    }

    public int enter(int method, int ops) {
        if (!isAmong(method, gates.methods) || ops < 0 || ops > Gates.MOST_OPS) {
            return BAD;
        }
        return gates.run(method, ops);
    }

    public int entered(int what) {
        return isAmong(what, Gates.ENTERED) ? gates.entered[what] : BAD;
    }

    // ---- halves

    public int half(int secret, int i) {
        if (secret < 0 || secret >= PRIME || i < 1 || i > 1000) {
            return BAD;
        }
        if (tapeLength % 4 != 0 || tapeLength > 40) {
            return NO;
        }
        long value = 0;
        for (int at = tapeLength - 4; at >= 0; at -= 4) {
            value = (value + tapeNumber(at) % PRIME) % PRIME * i % PRIME;
        }
        tapeLength = 0;
        return (int) ((value + secret) % PRIME);
    }

    public int joined() {
        if (tapeLength % 8 != 0 || tapeLength == 0 || tapeLength > 80 || !areHalves()) {
            return NO;
        }
        long secret = 0;
        for (int at = 0; at < tapeLength; at += 8) {
            secret = (secret + tapeNumber(at + 4) * weightOf(at) % PRIME) % PRIME;
        }
        tapeLength = 0;
        return (int) secret;
    }

    private long tapeNumber(int at) {
        long number = 0;
        for (int i = at; i < at + 4 && i < TAPE_BYTES; i++) {
            number = number << 8 | tape[i];
        }
        return number;
    }

    private boolean areHalves() {
        for (int at = 0; at < tapeLength; at += 8) {
            long i = tapeNumber(at);
            if (i < 1 || i > 1000 || tapeNumber(at + 4) >= PRIME) {
                return false;
            }
            for (int earlier = 0; earlier < at; earlier += 8) {
                if (tapeNumber(earlier) == i) {
                    return false;
                }
            }
        }
        return true;
    }

    /** How much the half at a place counts for the value at 0: the product of j / (j - i) over the others. */
    private long weightOf(int at) {
        long i = tapeNumber(at);
        long above = 1;
        long below = 1;
        for (int other = 0; other < tapeLength; other += 8) {
            if (other != at) {
                long j = tapeNumber(other);
                above = above * j % PRIME;
                below = below * ((j - i + PRIME) % PRIME) % PRIME;
            }
        }
        return above * inverse(below) % PRIME;
    }

    /** As the modulus is a prime, the power modulus - 2 is the inverse. */
    private static long inverse(long number) {
        long power = number;
        long result = 1;
        int exponent = PRIME - 2;
        for (int bit = 0; bit < 31; bit++) {
            if ((exponent >> bit & 1) == 1) {
                result = result * power % PRIME;
            }
            power = power * power % PRIME;
        }
        return result;
    }

    // ---- the log

    private void writeLog(int kind, int first, int second, int third, int answer) {
        if (logRows >= LOG_ROWS) {
            return;
        }
        int row = logRows * LOG_COLUMNS;
        log[row] = kind;
        log[row + 1] = now;
        log[row + 2] = first;
        log[row + 3] = second;
        log[row + 4] = third;
        log[row + 5] = answer;
        log[row + LOG_SUM] = sumBehind(sumAhead(logRows), logRows);
        logRows++;
    }

    private int sumAhead(int i) {
        return i == 0 ? 1 : log[(i - 1) * LOG_COLUMNS + LOG_SUM];
    }

    private int sumBehind(int ahead, int i) {
        int h = ahead;
        for (int k = 0; k < LOG_SUM; k++) {
            h = (h ^ log[i * LOG_COLUMNS + k]) * 1664525 + 1013904223;
            h = h ^ (h >>> 15);
        }
        return h;
    }

    public int logged(int i, int what) {
        if (i == HOW_MANY) {
            return logRows;
        }
        if (!isAmong(i, logRows) || !isAmong(what, LOG_COLUMNS)) {
            return BAD;
        }
        return log[i * LOG_COLUMNS + what];
    }

    public int forge(int i, int what, int v) {
        if (!isAmong(i, logRows) || !isAmong(what, LOG_SUM)) {
            return BAD;
        }
        int was = log[i * LOG_COLUMNS + what];
        log[i * LOG_COLUMNS + what] = v;
        return was;
    }

    public int wrong() {
        for (int i = 0; i < logRows; i++) {
            if (log[i * LOG_COLUMNS + LOG_SUM] != sumBehind(sumAhead(i), i)) {
                return i;
            }
        }
        return NONE;
    }

    public int sealed(int n, int sum) {
        if (n < 0 || n > logRows) {
            return BAD;
        }
        int h = 1;
        for (int i = 0; i < n; i++) {
            h = sumBehind(h, i);
        }
        return h == sum ? 1 : 0;
    }

    public int could(int act, int thing, int t, int i) {
        if (!isAct(act) || !things.isThere(thing) || t < 0 || t > now || i < 0) {
            return BAD;
        }
        judge.setMoment(t, now);
        return judge.personAllowed(policyInForce(t), act, thing, i);
    }

    /** Persons, groups, the rows by which they belong, and the features that persons and things bear. */
    private static final class Who {
        static final int PERSONS = 20, GROUPS = 16, ROWS = 200, OTHERS = 100;
        /** In the place of a moment: the rows not taken back, whatever their moments. */
        private static final int WHENEVER = -1;
        static final int MEMBER = 0, GROUP = 1, FROM = 2, UNTIL = 3, KNOWN_FROM = 4, KNOWN_UNTIL = 5, ROW_COLUMNS = 6;
        static final int FEATURES = 8, ITEMS = 20, BEARERS = PERSONS + Things.THINGS;
        static final int NOTHING = 0, WHOLES = 1, REALS = 2, MARKS = 3;

        int persons;
        int groups;
        int rows;
        final int[] row;
        final int[] sort;
        final int[] size;
        final long[] item;

        Who() {
            // One row more than may be kept: a law is asked with the new row put, even when it will be FULL.
            row = new int[(ROWS + 1) * ROW_COLUMNS];
            sort = new int[BEARERS * FEATURES];
            size = new int[BEARERS * FEATURES];
            item = new long[BEARERS * FEATURES * ITEMS];
        }

        boolean isPerson(int p) {
            return p >= 0 && p < persons;
        }

        boolean isGroup(int g) {
            return g >= 0 && g < groups;
        }

        boolean isMember(int member) {
            return isPerson(member) || member >= OTHERS && isGroup(member - OTHERS);
        }

        int addRow(int member, int group, int from, int until, int now) {
            int at = rows * ROW_COLUMNS;
            row[at + MEMBER] = member;
            row[at + GROUP] = group;
            row[at + FROM] = from;
            row[at + UNTIL] = until;
            row[at + KNOWN_FROM] = now;
            row[at + KNOWN_UNTIL] = NONE;
            rows++;
            return rows - 1;
        }

        boolean isLasting(int r) {
            return row[r * ROW_COLUMNS + KNOWN_UNTIL] == NONE;
        }

        void endRow(int r, int now) {
            row[r * ROW_COLUMNS + KNOWN_UNTIL] = now;
        }

        int endRows(int person, int group, int now) {
            int ended = 0;
            for (int r = 0; r < rows; r++) {
                int at = r * ROW_COLUMNS;
                if (row[at + MEMBER] == person && row[at + GROUP] == group && isLasting(r)) {
                    endRow(r, now);
                    ended++;
                }
            }
            return ended;
        }

        private boolean counts(int r, int t, int known) {
            if (t == WHENEVER) {
                return isLasting(r);
            }
            int at = r * ROW_COLUMNS;
            boolean stands = row[at + FROM] <= t && t < row[at + UNTIL];
            return stands && row[at + KNOWN_FROM] <= known && (isLasting(r) || known < row[at + KNOWN_UNTIL]);
        }

        /** The groups, as bits, to which a person belongs at a moment, as known at another one. */
        int groupsOf(int person, int t, int known) {
            int straight = 0;
            for (int r = 0; r < rows; r++) {
                if (row[r * ROW_COLUMNS + MEMBER] == person && counts(r, t, known)) {
                    straight |= 1 << row[r * ROW_COLUMNS + GROUP];
                }
            }
            return straight == 0 ? 0 : reachedFrom(straight, t, known);
        }

        /** Some groups, as bits, and all to which they lead. */
        int reachedFrom(int some, int t, int known) {
            int reached = some;
            for (int round = 0; round < GROUPS; round++) {
                int before = reached;
                for (int r = 0; r < rows; r++) {
                    if (isFromAmong(r, reached) && counts(r, t, known)) {
                        reached |= 1 << row[r * ROW_COLUMNS + GROUP];
                    }
                }
                if (reached == before) {
                    break;
                }
            }
            return reached;
        }

        private boolean isFromAmong(int r, int some) {
            int member = row[r * ROW_COLUMNS + MEMBER];
            return member >= OTHERS && (some >> (member - OTHERS) & 1) == 1;
        }

        boolean wouldRing(int member, int group) {
            return member >= OTHERS && (reachedFrom(1 << group, WHENEVER, WHENEVER) >> (member - OTHERS) & 1) == 1;
        }

        static int slotOfPerson(int person, int feature) {
            return person * FEATURES + feature;
        }

        static int slotOfThing(int thing, int feature) {
            return (PERSONS + thing) * FEATURES + feature;
        }

        void setFeature(int slot, int newSort, int length) {
            sort[slot] = newSort;
            size[slot] = length;
            for (int i = 0; i < ITEMS; i++) {
                item[slot * ITEMS + i] = 0;
            }
        }

        void setItem(int slot, int i, long v) {
            long kept = v;
            if (sort[slot] == MARKS) {
                kept = (int) v;
            } else if (sort[slot] == REALS && Reals.isNoNumber(v)) {
                kept = Reals.NO_NUMBER;
            }
            item[slot * ITEMS + i] = kept;
        }

        boolean hasItems(int slot, int i, int n) {
            return i >= 0 && n >= 0 && i <= size[slot] && n <= size[slot] - i;
        }

        boolean hasMark(int slot, long mark) {
            for (int i = 0; i < size[slot]; i++) {
                if (item[slot * ITEMS + i] == mark) {
                    return true;
                }
            }
            return false;
        }
    }

    /** The tree of things, and which act holds which. */
    private static final class Things {
        static final int THINGS = 40, ACTS = 6, R = 0, W = 1, O = 5;

        int things;
        final int[] place;
        final int[] owner;
        final boolean[] isCut;
        final boolean[] isGone;
        final int[] told;
        final int[] held;

        Things() {
            place = new int[THINGS];
            owner = new int[THINGS];
            isCut = new boolean[THINGS];
            isGone = new boolean[THINGS];
            told = new int[ACTS];
            held = new int[ACTS];
            place[0] = NONE;
            owner[0] = NONE;
            things = 1;
            told[O] = (1 << ACTS) - 1;
            told[W] = 1 << R;
            closeHolds();
        }

        int add(int in, int by) {
            place[things] = in;
            owner[things] = by;
            things++;
            return things - 1;
        }

        boolean isThere(int t) {
            return t >= 0 && t < things && !isGone[t];
        }

        /** Whether a thing is another one, or in it at any depth, cut or not. */
        boolean isInside(int t, int other) {
            int at = t;
            for (int n = 0; n < THINGS && at != NONE; n++) {
                if (at == other) {
                    return true;
                }
                at = place[at];
            }
            return false;
        }

        boolean isUnder(int t, int other) {
            int at = t;
            for (int n = 0; n < THINGS && at != NONE; n++) {
                if (at == other) {
                    return true;
                }
                if (isCut[at]) {
                    return false;
                }
                at = place[at];
            }
            return false;
        }

        boolean bearsAny(int t) {
            for (int i = 0; i < things; i++) {
                if (place[i] == t && !isGone[i]) {
                    return true;
                }
            }
            return false;
        }

        int depthOf(int t) {
            int depth = 0;
            int at = place[t];
            for (int n = 0; n < THINGS && at != NONE; n++) {
                depth++;
                at = place[at];
            }
            return depth;
        }

        boolean tellHolds(int act, int other, boolean is) {
            boolean was = (told[act] >> other & 1) == 1;
            told[act] = is ? told[act] | 1 << other : told[act] & ~(1 << other);
            closeHolds();
            return was != is;
        }

        private void closeHolds() {
            for (int a = 0; a < ACTS; a++) {
                held[a] = told[a] | 1 << a;
            }
            for (int by = 0; by < ACTS; by++) {
                for (int a = 0; a < ACTS; a++) {
                    if ((held[a] >> by & 1) == 1) {
                        held[a] |= held[by];
                    }
                }
            }
        }

        boolean actHolds(int act, int other) {
            return (held[act] >> other & 1) == 1;
        }
    }

    /**
     * Doubles told by their bits, worked out over longs: a double of the machine can't be had from its bits here,
     * and none may come to what is no number.
     */
    private static final class Reals {
        static final long NO_NUMBER = 0x7ff8000000000000L;
        static final long ENDLESS = 0x7ff0000000000000L;
        static final long SIGN = 0x8000000000000000L;
        static final long HIDDEN = 1L << 52;
        static final long LOW_27 = (1L << 27) - 1;
        static final int LEAST_EXPONENT = -1074;
        static final int UNLIKE_ALL = 2;

        static boolean isNoNumber(long x) {
            return (x & ~SIGN) > ENDLESS;
        }

        private static boolean isEndless(long x) {
            return (x & ~SIGN) == ENDLESS;
        }

        private static boolean isZero(long x) {
            return (x & ~SIGN) == 0;
        }

        static long negated(long x) {
            return isNoNumber(x) ? NO_NUMBER : x ^ SIGN;
        }

        /** A number that ends is its mantissa times 2 to the power of its exponent. */
        private static long mantissa(long x) {
            long fraction = x & (HIDDEN - 1);
            return (x & ENDLESS) == 0 ? fraction : fraction | HIDDEN;
        }

        private static int exponent(long x) {
            int field = (int) (x >>> 52) & 2047;
            return field == 0 ? LEAST_EXPONENT : field - 1 + LEAST_EXPONENT;
        }

        /** How far a mantissa must be shifted for its highest bit to be the 53rd. */
        private static int shortage(long mantissa) {
            for (int n = 0; n < 53; n++) {
                if ((mantissa << n & HIDDEN) != 0) {
                    return n;
                }
            }
            return 0;
        }

        /**
         * The real next to m times 2 to the power e, of two the even one. Where bits of m were lost, its lowest bit
         * tells that, and m has some bits more than a real can hold.
         */
        private static long packed(long sign, long m, int e) {
            if (m == 0) {
                return sign;
            }
            long top = m;
            int exponent = e;
            for (int n = 0; n < 63 && (top & 1L << 62) == 0; n++) {
                top <<= 1;
                exponent--;
            }
            int field = exponent + 62 + 1023;
            if (field >= 2047) {
                return sign | ENDLESS;
            }
            int drop = field > 0 ? 10 : 11 - field;
            if (drop > 63) {
                return sign;
            }
            long kept = top >>> drop;
            long rest = top & (1L << drop) - 1;
            long half = 1L << (drop - 1);
            if (rest > half || rest == half && (kept & 1) == 1) {
                kept++;
            }
            // A carry out of the fraction goes into the exponent, as it should.
            return sign | (field > 0 ? ((long) (field - 1) << 52) + kept : kept);
        }

        static long ofWhole(long v) {
            if (v == Long.MIN_VALUE) {
                return 0xc3e0000000000000L;
            }
            return v < 0 ? packed(SIGN, -v, 0) : packed(0, v, 0);
        }

        static long plus(long x, long y) {
            if (isNoNumber(x) || isNoNumber(y)) {
                return NO_NUMBER;
            }
            if (isEndless(x)) {
                return isEndless(y) && x != y ? NO_NUMBER : x;
            }
            if (isEndless(y)) {
                return y;
            }
            long more = exponent(x) >= exponent(y) ? x : y;
            long less = exponent(x) >= exponent(y) ? y : x;
            int apart = exponent(more) - exponent(less);
            long a = mantissa(more) << 9;
            long b = mantissa(less) << 9;
            if (apart > 62) {
                b = b == 0 ? 0 : 1;
            } else if (apart > 0) {
                long lost = b & (1L << apart) - 1;
                b = b >>> apart | (lost == 0 ? 0 : 1);
            }
            long total = (more < 0 ? -a : a) + (less < 0 ? -b : b);
            if (total == 0) {
                return x & y & SIGN;
            }
            return total < 0 ? packed(SIGN, -total, exponent(more) - 9) : packed(0, total, exponent(more) - 9);
        }

        static long times(long x, long y) {
            long sign = (x ^ y) & SIGN;
            if (isNoNumber(x) || isNoNumber(y) || isEndless(x) && isZero(y) || isZero(x) && isEndless(y)) {
                return NO_NUMBER;
            }
            if (isEndless(x) || isEndless(y)) {
                return sign | ENDLESS;
            }
            if (isZero(x) || isZero(y)) {
                return sign;
            }
            int shiftX = shortage(mantissa(x));
            int shiftY = shortage(mantissa(y));
            long a = mantissa(x) << shiftX;
            long b = mantissa(y) << shiftY;
            long low = (a & LOW_27) * (b & LOW_27);
            long middle = (a >>> 27) * (b & LOW_27) + (a & LOW_27) * (b >>> 27) + (low >>> 27);
            long high = (a >>> 27) * (b >>> 27) + (middle >>> 27);
            long rest = (middle & LOW_27) << 27 | low & LOW_27;
            long m = high << 9 | rest >>> 45;
            if ((rest & (1L << 45) - 1) != 0) {
                m |= 1;
            }
            return packed(sign, m, exponent(x) - shiftX + exponent(y) - shiftY + 45);
        }

        static long over(long x, long y) {
            long sign = (x ^ y) & SIGN;
            if (isNoNumber(x) || isNoNumber(y) || isEndless(x) && isEndless(y) || isZero(x) && isZero(y)) {
                return NO_NUMBER;
            }
            if (isEndless(x) || isZero(y)) {
                return sign | ENDLESS;
            }
            if (isZero(x) || isEndless(y)) {
                return sign;
            }
            int shiftX = shortage(mantissa(x));
            int shiftY = shortage(mantissa(y));
            long rest = mantissa(x) << shiftX;
            long divisor = mantissa(y) << shiftY;
            long quotient = 0;
            for (int bit = 0; bit <= 60; bit++) {
                quotient <<= 1;
                if (rest >= divisor) {
                    rest -= divisor;
                    quotient |= 1;
                }
                rest <<= 1;
            }
            if (rest != 0) {
                quotient |= 1;
            }
            return packed(sign, quotient, exponent(x) - shiftX - exponent(y) + shiftY - 60);
        }

        static long rest(long x, long y) {
            if (isNoNumber(x) || isNoNumber(y) || isEndless(x) || isZero(y)) {
                return NO_NUMBER;
            }
            int apart = exponent(x) - exponent(y);
            // With the greater exponent y is no small number, and so greater than x as a whole.
            if (isEndless(y) || apart < 0) {
                return x;
            }
            long divisor = mantissa(y);
            if (divisor == 0) {
                return NO_NUMBER;
            }
            long rest = mantissa(x) % divisor;
            for (int n = 0; n < apart; n++) {
                rest <<= 1;
                if (rest >= divisor) {
                    rest -= divisor;
                }
            }
            return packed(x & SIGN, rest, exponent(y));
        }

        /** -1, 0, 1, or UNLIKE_ALL where one is no number. */
        static int order(long x, long y) {
            if (isNoNumber(x) || isNoNumber(y)) {
                return UNLIKE_ALL;
            }
            long a = x < 0 ? SIGN - x : x;
            long b = y < 0 ? SIGN - y : y;
            return Long.compare(a, b);
        }
    }

    /**
     * The texts that were read: rules, and the code of their conditions. A sum leaves a value, a condition a truth,
     * each behind those on which it works.
     */
    private static final class Policies {
        static final int POLICIES = 8, RULES = 30, DEEPEST = 20;
        static final int EFFECT = 0, WHO = 1, WHO_NUMBER = 2, ACT = 3, THING = 4, THING_NUMBER = 5;
        static final int CODE = 6, CODE_END = 7, DUTY = 8, RULE_COLUMNS = 9;
        /** In the order of how much they say. */
        static final int WHO_ANY = 0, WHO_GROUP = 1, WHO_OWN = 2, WHO_PERSON = 3;
        static final int THING_ANY = 0, THING_UNDER = 1, THING_ALONE = 2;
        static final int ACT_ALL = Things.ACTS;

        static final int WHOLE = 0, REAL = 1, NOW = 2, AGE = 3, SIZE = 4, ITEM = 5, ITEM_AT = 6;
        static final int NEGATE = 7, ADD = 8, SUBTRACT = 9, MULTIPLY = 10, DIVIDE = 11, REST = 12;
        static final int LESS = 13, AT_MOST = 14, EQUAL = 15, UNLIKE = 16, AT_LEAST = 17, MORE = 18, AMONG = 19;
        static final int KNOWN = 20, NOT = 21, AND = 22, OR = 23, SKIP_IF_FALSE = 24, SKIP_IF_TRUE = 25;

        private static final int T_END = 0, T_WORD = 1, T_WHOLE = 2, T_REAL = 3, T_SIGN = 4, T_FAULTY = 5;
        private static final int S_AT_MOST = 256, S_AT_LEAST = 257, S_UNLIKE = 258;
        private static final String SIGNS = "()[]+-*/%<>=;.";
        private static final String ACT_LETTERS = "rwxdgo", FEATURE_LETTERS = "abcdefgh";

        int policies;
        final int[] way;
        final int[] rules;
        final int[] rule;
        final int[] op;
        final long[] number;
        private final Who people;
        private final Things things;
        private final int[] text;
        private int length;
        private final int[] kind;
        private final int[] start;
        private final long[] value;
        private int tokens;
        private int at;
        private int ops;
        private int fault;

        Policies(Who people, Things things) {
            this.people = people;
            this.things = things;
            way = new int[POLICIES];
            rules = new int[POLICIES];
            rule = new int[POLICIES * RULES * RULE_COLUMNS];
            op = new int[POLICIES * TAPE_BYTES];
            number = new long[POLICIES * TAPE_BYTES];
            text = new int[TAPE_BYTES];
            kind = new int[TAPE_BYTES + 1];
            start = new int[TAPE_BYTES + 1];
            value = new long[TAPE_BYTES + 1];
        }

        static int ruleAt(int policy, int r) {
            return (policy * RULES + r) * RULE_COLUMNS;
        }

        /** NONE when the text became a policy, else its fault's place. There must be room for one. */
        int read(int[] tape, int tapeLength, int newWay) {
            System.arraycopy(tape, 0, text, 0, tapeLength);
            length = tapeLength;
            split();
            at = 0;
            ops = policies * TAPE_BYTES;
            for (int n = 0; n < RULES; n++) {
                if (!readRule(ruleAt(policies, n))) {
                    return fault;
                }
                if (kind[at] == T_END) {
                    way[policies] = newWay;
                    rules[policies] = n + 1;
                    policies++;
                    return NONE;
                }
                if (!passes(';')) {
                    return fault;
                }
            }
            return start[at];
        }

        /** Nothing can go on at a faulty token, so none is looked for behind it. */
        private void split() {
            tokens = 0;
            int place = 0;
            for (int n = 0; n < TAPE_BYTES && place < length; n++) {
                if (text[place] == ' ' || text[place] == '\n') {
                    place++;
                } else {
                    place = splitOff(place);
                    if (kind[tokens - 1] == T_FAULTY) {
                        return;
                    }
                }
            }
            addToken(T_END, length, 0);
        }

        private void addToken(int newKind, int place, long newValue) {
            if (tokens <= TAPE_BYTES) {
                kind[tokens] = newKind;
                start[tokens] = place;
                value[tokens] = newValue;
                tokens++;
            }
        }

        private boolean isLetter(int place) {
            return place < length && text[place] >= 'a' && text[place] <= 'z';
        }

        private boolean isFigure(int place) {
            return place < length && text[place] >= '0' && text[place] <= '9';
        }

        /** The place behind the token that was added. */
        private int splitOff(int place) {
            if (isFigure(place)) {
                return splitNumber(place);
            }
            if (!isLetter(place)) {
                return splitSign(place);
            }
            int end = place + 1;
            for (int n = 0; n < TAPE_BYTES && (isLetter(end) || isFigure(end)); n++) {
                end++;
            }
            addToken(T_WORD, place, end);
            return end;
        }

        private int splitSign(int place) {
            int sign = text[place];
            int next = place + 1 < length ? text[place + 1] : 0;
            int pair = 0;
            if (sign == '<' && next == '=') {
                pair = S_AT_MOST;
            } else if (sign == '>' && next == '=') {
                pair = S_AT_LEAST;
            } else if (sign == '<' && next == '>') {
                pair = S_UNLIKE;
            }
            if (pair != 0) {
                addToken(T_SIGN, place, pair);
                return place + 2;
            }
            addToken(SIGNS.indexOf((char) sign) >= 0 ? T_SIGN : T_FAULTY, place, sign);
            return place + 1;
        }

        private int splitNumber(int place) {
            long figures = 0;
            long tens = 1;
            int end = place;
            int point = NONE;
            for (int n = 0; n < TAPE_BYTES; n++) {
                if (isFigure(end)) {
                    figures = figures * 10 + text[end] - '0';
                    tens = point == NONE ? 1 : tens * 10;
                } else if (point == NONE && end < length && text[end] == '.' && isFigure(end + 1)) {
                    point = end;
                } else {
                    break;
                }
                end++;
            }
            int whole = (point == NONE ? end : point) - place;
            int behind = point == NONE ? 0 : end - point - 1;
            if (whole > 9 || behind > 6) {
                addToken(T_FAULTY, place, 0);
            } else if (point == NONE) {
                addToken(T_WHOLE, place, figures);
            } else {
                // Both are below 2 to the power 53, so that the division alone is rounded.
                addToken(T_REAL, place, Reals.over(Reals.ofWhole(figures), Reals.ofWhole(tens)));
            }
            return end;
        }

        private boolean fail() {
            fault = start[at];
            return false;
        }

        private boolean isSign(int sign) {
            return kind[at] == T_SIGN && value[at] == sign;
        }

        private boolean isWord(String word) {
            if (kind[at] != T_WORD || value[at] - start[at] != word.length()) {
                return false;
            }
            for (int i = 0; i < word.length(); i++) {
                if (text[start[at] + i] != word.charAt(i)) {
                    return false;
                }
            }
            return true;
        }

        /** The letter of a word of one alone; else a blank, which is no letter. */
        private char oneLetter() {
            boolean isOne = kind[at] == T_WORD && value[at] - start[at] == 1;
            return isOne ? (char) text[start[at]] : ' ';
        }

        private boolean passes(int sign) {
            if (!isSign(sign)) {
                return fail();
            }
            at++;
            return true;
        }

        /** The number in a word of a letter and 1 to 9 figures; NONE if it is another word. */
        private int numberBehind(int letter) {
            if (kind[at] != T_WORD || text[start[at]] != letter) {
                return NONE;
            }
            int end = (int) value[at];
            int figures = end - start[at] - 1;
            if (figures < 1 || figures > 9) {
                return NONE;
            }
            int n = 0;
            for (int i = start[at] + 1; i < end; i++) {
                if (!isFigure(i)) {
                    return NONE;
                }
                n = n * 10 + text[i] - '0';
            }
            return n;
        }

        /** No text has more ops than bytes, so that each policy keeps to its own part of the row. */
        private void emit(int newOp, long newNumber) {
            if (ops < POLICIES * TAPE_BYTES) {
                op[ops] = newOp;
                number[ops] = newNumber;
                ops++;
            }
        }

        private void aimHere(int skip) {
            if (skip < ops) {
                number[skip] = ops;
            }
        }

        private boolean readRule(int r) {
            if (!readEffect(r) || !readWho(r) || !readAct(r) || !readThing(r)) {
                return false;
            }
            rule[r + CODE] = ops;
            if (isWord("if")) {
                at++;
                if (!readCondition(0)) {
                    return false;
                }
            }
            rule[r + CODE_END] = ops;
            rule[r + DUTY] = 0;
            if (isWord("must")) {
                at++;
                if (kind[at] != T_WHOLE || value[at] < 1) {
                    return fail();
                }
                rule[r + DUTY] = (int) value[at];
                at++;
            }
            return true;
        }

        private boolean readEffect(int r) {
            if (isWord("no")) {
                rule[r + EFFECT] = Judge.ANSWER_NO;
            } else if (isWord("yes")) {
                rule[r + EFFECT] = Judge.ANSWER_YES;
            } else if (isWord("maybe")) {
                rule[r + EFFECT] = Judge.ANSWER_MAYBE;
            } else {
                return fail();
            }
            at++;
            return true;
        }

        private boolean readWho(int r) {
            int person = numberBehind('p');
            int group = numberBehind('g');
            rule[r + WHO_NUMBER] = Math.max(person, group);
            if (isWord("any")) {
                rule[r + WHO] = WHO_ANY;
            } else if (isWord("own")) {
                rule[r + WHO] = WHO_OWN;
            } else if (people.isPerson(person)) {
                rule[r + WHO] = WHO_PERSON;
            } else if (people.isGroup(group)) {
                rule[r + WHO] = WHO_GROUP;
            } else {
                return fail();
            }
            at++;
            return true;
        }

        private boolean readAct(int r) {
            if (isWord("all")) {
                rule[r + ACT] = ACT_ALL;
                at++;
                return true;
            }
            int act = ACT_LETTERS.indexOf(oneLetter());
            if (act < 0) {
                return fail();
            }
            rule[r + ACT] = act;
            at++;
            return true;
        }

        private boolean readThing(int r) {
            if (isWord("any")) {
                rule[r + THING] = THING_ANY;
                at++;
                return true;
            }
            int thing = numberBehind('t');
            if (!things.isThere(thing)) {
                return fail();
            }
            at++;
            rule[r + THING_NUMBER] = thing;
            rule[r + THING] = THING_ALONE;
            if (isSign('/')) {
                at++;
                rule[r + THING] = THING_UNDER;
            }
            return true;
        }

        private boolean readCondition(int depth) {
            if (!readPart(depth)) {
                return false;
            }
            for (int n = 0; n < TAPE_BYTES && isWord("or"); n++) {
                at++;
                int skip = ops;
                emit(SKIP_IF_TRUE, 0);
                if (!readPart(depth)) {
                    return false;
                }
                emit(OR, 0);
                aimHere(skip);
            }
            return true;
        }

        private boolean readPart(int depth) {
            if (!readSuch(depth)) {
                return false;
            }
            for (int n = 0; n < TAPE_BYTES && isWord("and"); n++) {
                at++;
                int skip = ops;
                emit(SKIP_IF_FALSE, 0);
                if (!readSuch(depth)) {
                    return false;
                }
                emit(AND, 0);
                aimHere(skip);
            }
            return true;
        }

        private boolean readSuch(int depth) {
            if (isWord("not")) {
                if (depth >= DEEPEST) {
                    return fail();
                }
                at++;
                if (!readSuch(depth + 1)) {
                    return false;
                }
                emit(NOT, 0);
                return true;
            }
            if (isWord("known")) {
                at++;
                return readFeature(KNOWN);
            }
            return isSign('(') ? readBothWays(depth) : readComparison(depth);
        }

        private boolean readBothWays(int depth) {
            if (depth >= DEEPEST) {
                return fail();
            }
            int mark = at;
            int opsAhead = ops;
            at++;
            if (readCondition(depth + 1) && passes(')')) {
                return true;
            }
            int faultAsCondition = fault;
            at = mark;
            ops = opsAhead;
            if (readComparison(depth)) {
                return true;
            }
            fault = Math.max(fault, faultAsCondition);
            return false;
        }

        private boolean readComparison(int depth) {
            if (!readSum(depth)) {
                return false;
            }
            if (isWord("in")) {
                at++;
                return readFeature(AMONG);
            }
            int comparison = comparisonHere();
            if (comparison == NONE) {
                return fail();
            }
            at++;
            if (!readSum(depth)) {
                return false;
            }
            emit(comparison, 0);
            return true;
        }

        private int comparisonHere() {
            if (kind[at] != T_SIGN) {
                return NONE;
            }
            switch ((int) value[at]) {
                case '<':
                    return LESS;
                case S_AT_MOST:
                    return AT_MOST;
                case '=':
                    return EQUAL;
                case S_UNLIKE:
                    return UNLIKE;
                case S_AT_LEAST:
                    return AT_LEAST;
                case '>':
                    return MORE;
                default:
                    return NONE;
            }
        }

        private boolean readSum(int depth) {
            if (!readProduct(depth)) {
                return false;
            }
            for (int n = 0; n < TAPE_BYTES && (isSign('+') || isSign('-')); n++) {
                int sign = isSign('+') ? ADD : SUBTRACT;
                at++;
                if (!readProduct(depth)) {
                    return false;
                }
                emit(sign, 0);
            }
            return true;
        }

        private boolean readProduct(int depth) {
            if (!readTerm(depth)) {
                return false;
            }
            for (int n = 0; n < TAPE_BYTES && (isSign('*') || isSign('/') || isSign('%')); n++) {
                int sign = isSign('*') ? MULTIPLY : isSign('/') ? DIVIDE : REST;
                at++;
                if (!readTerm(depth)) {
                    return false;
                }
                emit(sign, 0);
            }
            return true;
        }

        private boolean readTerm(int depth) {
            if (isSign('-') || isSign('(')) {
                return readNested(depth);
            }
            if (kind[at] == T_WHOLE || kind[at] == T_REAL) {
                emit(kind[at] == T_WHOLE ? WHOLE : REAL, value[at]);
                at++;
                return true;
            }
            if (isWord("now") || isWord("age")) {
                emit(isWord("now") ? NOW : AGE, 0);
                at++;
                return true;
            }
            if (isWord("size")) {
                at++;
                return readFeature(SIZE);
            }
            return readItem(depth);
        }

        private boolean readNested(int depth) {
            if (depth >= DEEPEST) {
                return fail();
            }
            boolean isMinus = isSign('-');
            at++;
            if (!isMinus) {
                return readSum(depth + 1) && passes(')');
            }
            if (!readTerm(depth + 1)) {
                return false;
            }
            emit(NEGATE, 0);
            return true;
        }

        private boolean readItem(int depth) {
            int mark = ops;
            if (!readFeature(ITEM)) {
                return false;
            }
            if (!isSign('[')) {
                return true;
            }
            if (depth >= DEEPEST) {
                return fail();
            }
            // The place is worked out first, so the op of the feature comes behind it.
            long feature = number[mark];
            ops = mark;
            at++;
            if (!readSum(depth + 1) || !passes(']')) {
                return false;
            }
            emit(ITEM_AT, feature);
            return true;
        }

        /** A feature, told to an op as 0 to 7 of me, 8 to 15 of it. */
        private boolean readFeature(int newOp) {
            boolean isMine = isWord("me");
            if (!isMine && !isWord("it")) {
                return fail();
            }
            at++;
            if (!isSign('.')) {
                return fail();
            }
            at++;
            int feature = FEATURE_LETTERS.indexOf(oneLetter());
            if (feature < 0) {
                return fail();
            }
            at++;
            emit(newOp, isMine ? feature : feature + Who.FEATURES);
            return true;
        }
    }

    /** Answers requests by policies: one, or all that there are. */
    private static final class Judge {
        static final int ANSWER_NO = 0, ANSWER_YES = 1, ANSWER_MAYBE = 2, ANSWER_FAIL = 3;
        static final int MADE = 4, COMPARED = 6, MOST_SWEEPS = 20;
        private static final int ONLY_SECOND = 0, ONLY_FIRST = 1, DIFFERS = 2, REQUESTS = 5;
        private static final int RULE = 0, DUTY = 1, FAILURE = 2, SPOKE = 3;
        private static final int FIRST = 0, BY_THING = 2, BY_WHO = 3;
        private static final int FALSE = 0, TRUE = 1, UNKNOWN = 2, FAIL = 3;
        private static final int FINE = 4;
        /** What a condition can have open is two for each level of its nesting, and two more. */
        private static final int STACK = 64;
        /** By rank: no, FAIL, maybe, yes. */
        private static final int[] RANK = {3, 0, 1, 2};

        private final Who people;
        private final Things things;
        private final Policies policies;
        private int person;
        private int groups;
        private int thing;
        private int moment;
        private int now;
        private final long[] value;
        private final boolean[] isReal;
        private int values;
        private final int[] truth;
        private int truths;
        private int failure;
        private final int[] decision;
        final int[] made;
        boolean hasMade;
        final int[] compared;
        boolean hasCompared;
        int sweeps;

        Judge(Who people, Things things, Policies policies) {
            this.people = people;
            this.things = things;
            this.policies = policies;
            value = new long[STACK];
            isReal = new boolean[STACK];
            truth = new int[STACK];
            decision = new int[MADE];
            made = new int[MADE];
            compared = new int[COMPARED];
        }

        void setMoment(int t, int nowThen) {
            moment = t;
            now = nowThen;
        }

        void setPerson(int p, int belongsTo) {
            person = p;
            groups = belongsTo;
        }

        int answerKept(int policy, int act, int asked) {
            int answer = answer(policy, act, asked);
            System.arraycopy(decision, 0, made, 0, MADE);
            hasMade = true;
            return answer;
        }

        /** By no policy (NONE) it is no, by no rule. */
        private int answer(int policy, int act, int asked) {
            decision[RULE] = NONE;
            decision[DUTY] = 0;
            decision[FAILURE] = 0;
            decision[SPOKE] = 0;
            thing = asked;
            int answer = ANSWER_NO;
            int best = 0;
            int count = policy == NONE ? 0 : policies.rules[policy];
            for (int r = 0; r < count; r++) {
                int at = Policies.ruleAt(policy, r);
                int spoken = spoken(at, act);
                if (spoken == NONE) {
                    continue;
                }
                decision[SPOKE]++;
                int weight = weightOf(policies.way[policy], at, spoken);
                if (decision[RULE] == NONE || weight > best) {
                    decision[RULE] = r;
                    decision[DUTY] = policies.rule[at + Policies.DUTY];
                    decision[FAILURE] = failure;
                    best = weight;
                    answer = spoken;
                }
            }
            return answer;
        }

        /** Of two rules that speak the one that weighs more decides, of like ones the first. */
        private int weightOf(int way, int at, int answer) {
            if (way == FIRST) {
                return 0;
            }
            int says = 0;
            if (way == BY_WHO) {
                says = policies.rule[at + Policies.WHO];
            } else if (way == BY_THING && policies.rule[at + Policies.THING] != Policies.THING_ANY) {
                int depth = things.depthOf(policies.rule[at + Policies.THING_NUMBER]);
                says = 2 * depth + policies.rule[at + Policies.THING];
            }
            return says * 4 + RANK[answer];
        }

        /** What a rule says to the request; NONE if it does not speak. */
        private int spoken(int at, int act) {
            int effect = policies.rule[at + Policies.EFFECT];
            if (!fitsWho(at) || !fitsAct(at, act) || !fitsThing(at)) {
                return NONE;
            }
            int condition = truthOf(policies.rule[at + Policies.CODE], policies.rule[at + Policies.CODE_END]);
            if (condition == FAIL) {
                return ANSWER_FAIL;
            }
            return condition == TRUE || condition == UNKNOWN && effect != ANSWER_YES ? effect : NONE;
        }

        private boolean fitsWho(int at) {
            int number = policies.rule[at + Policies.WHO_NUMBER];
            switch (policies.rule[at + Policies.WHO]) {
                case Policies.WHO_PERSON:
                    return number == person;
                case Policies.WHO_OWN:
                    return things.owner[thing] == person;
                case Policies.WHO_GROUP:
                    return (groups >> number & 1) == 1;
                default:
                    return true;
            }
        }

        private boolean fitsAct(int at, int act) {
            int own = policies.rule[at + Policies.ACT];
            if (own == Policies.ACT_ALL) {
                return true;
            }
            boolean forbids = policies.rule[at + Policies.EFFECT] == ANSWER_NO;
            return forbids ? things.actHolds(act, own) : things.actHolds(own, act);
        }

        private boolean fitsThing(int at) {
            int number = policies.rule[at + Policies.THING_NUMBER];
            switch (policies.rule[at + Policies.THING]) {
                case Policies.THING_ALONE:
                    return number == thing;
                case Policies.THING_UNDER:
                    return things.isUnder(thing, number);
                default:
                    return true;
            }
        }

        /** A condition without code is none, and true. */
        private int truthOf(int start, int end) {
            values = 0;
            truths = 0;
            failure = 0;
            for (int i = start; i < end; i++) {
                int op = policies.op[i];
                if (op >= Policies.SKIP_IF_FALSE) {
                    i = behindSkip(i, op);
                } else if (op >= Policies.KNOWN) {
                    combine(op, policies.number[i]);
                } else {
                    int outcome = op < Policies.NEGATE ? load(op, policies.number[i])
                            : op < Policies.LESS ? calculate(op) : weigh(op, policies.number[i]);
                    if (outcome == FAIL) {
                        return FAIL;
                    }
                    if (outcome == UNKNOWN) {
                        values = 0;
                        i = endOfComparison(i, end);
                        pushTruth(UNKNOWN);
                    }
                }
            }
            return truths > 0 ? truth[truths - 1] : TRUE;
        }

        /** The place from which the walk goes on by one. */
        private int behindSkip(int i, int op) {
            int wanted = op == Policies.SKIP_IF_FALSE ? FALSE : TRUE;
            boolean skips = truths > 0 && truth[truths - 1] == wanted;
            return skips ? Math.max(i, (int) policies.number[i] - 1) : i;
        }

        /** Sums hold no comparisons, so the next one on the way is the one that is not known. */
        private int endOfComparison(int i, int end) {
            for (int j = i; j < end; j++) {
                if (policies.op[j] >= Policies.LESS && policies.op[j] <= Policies.AMONG) {
                    return j;
                }
            }
            return end;
        }

        private int failBy(int number) {
            failure = number;
            return FAIL;
        }

        private void pushTruth(int t) {
            if (truths < STACK) {
                truth[truths] = t;
                truths++;
            }
        }

        private int pushValue(boolean real, long v) {
            if (values < STACK) {
                isReal[values] = real;
                value[values] = v;
                values++;
            }
            return FINE;
        }

        private int slotOf(long feature) {
            int f = (int) feature;
            return f < Who.FEATURES ? Who.slotOfPerson(person, f) : Who.slotOfThing(thing, f - Who.FEATURES);
        }

        private int load(int op, long number) {
            switch (op) {
                case Policies.WHOLE:
                    return pushValue(false, number);
                case Policies.REAL:
                    return pushValue(true, number);
                case Policies.NOW:
                    return pushValue(false, moment);
                case Policies.AGE:
                    return pushValue(false, now - moment);
                case Policies.SIZE:
                    int slot = slotOf(number);
                    return people.sort[slot] == Who.NOTHING ? UNKNOWN : pushValue(false, people.size[slot]);
                case Policies.ITEM:
                    return loadItem(slotOf(number), 0);
                default:
                    if (values < 1) {
                        return FAIL;
                    }
                    values--;
                    return isReal[values] ? failBy(OTHER_SORT) : loadItem(slotOf(number), value[values]);
            }
        }

        private int loadItem(int slot, long place) {
            if (people.sort[slot] == Who.NOTHING) {
                return UNKNOWN;
            }
            if (place < 0 || place >= people.size[slot]) {
                return failBy(NO_PLACE);
            }
            return pushValue(people.sort[slot] == Who.REALS, people.item[slot * Who.ITEMS + (int) place]);
        }

        private int calculate(int op) {
            if (op == Policies.NEGATE && values >= 1) {
                int top = values - 1;
                value[top] = isReal[top] ? Reals.negated(value[top]) : -value[top];
                return FINE;
            }
            if (values < 2) {
                return FAIL;
            }
            values -= 2;
            long x = value[values];
            long y = value[values + 1];
            if (!isReal[values] && !isReal[values + 1]) {
                return calculateWholes(op, x, y);
            }
            x = isReal[values] ? x : Reals.ofWhole(x);
            y = isReal[values + 1] ? y : Reals.ofWhole(y);
            switch (op) {
                case Policies.ADD:
                    return pushValue(true, Reals.plus(x, y));
                case Policies.SUBTRACT:
                    return pushValue(true, Reals.plus(x, Reals.negated(y)));
                case Policies.MULTIPLY:
                    return pushValue(true, Reals.times(x, y));
                case Policies.DIVIDE:
                    return pushValue(true, Reals.over(x, y));
                default:
                    return pushValue(true, Reals.rest(x, y));
            }
        }

        private int calculateWholes(int op, long x, long y) {
            switch (op) {
                case Policies.ADD:
                    return pushValue(false, x + y);
                case Policies.SUBTRACT:
                    return pushValue(false, x - y);
                case Policies.MULTIPLY:
                    return pushValue(false, x * y);
                default:
                    if (y == 0) {
                        return failBy(BY_ZERO);
                    }
                    return pushValue(false, op == Policies.DIVIDE ? x / y : x % y);
            }
        }

        private int weigh(int op, long number) {
            if (op == Policies.AMONG) {
                return weighAmong(slotOf(number));
            }
            if (values < 2) {
                return FAIL;
            }
            values -= 2;
            long x = value[values];
            long y = value[values + 1];
            int order = Long.compare(x, y);
            if (isReal[values] || isReal[values + 1]) {
                x = isReal[values] ? x : Reals.ofWhole(x);
                y = isReal[values + 1] ? y : Reals.ofWhole(y);
                order = Reals.order(x, y);
            }
            pushTruth(isSo(op, order) ? TRUE : FALSE);
            return FINE;
        }

        private static boolean isSo(int op, int order) {
            if (order == Reals.UNLIKE_ALL) {
                return op == Policies.UNLIKE;
            }
            switch (op) {
                case Policies.LESS:
                    return order < 0;
                case Policies.AT_MOST:
                    return order <= 0;
                case Policies.EQUAL:
                    return order == 0;
                case Policies.UNLIKE:
                    return order != 0;
                case Policies.AT_LEAST:
                    return order >= 0;
                default:
                    return order > 0;
            }
        }

        private int weighAmong(int slot) {
            if (values < 1) {
                return FAIL;
            }
            values--;
            if (isReal[values]) {
                return failBy(OTHER_SORT);
            }
            if (people.sort[slot] == Who.NOTHING) {
                return UNKNOWN;
            }
            if (people.sort[slot] != Who.MARKS) {
                return failBy(OTHER_SORT);
            }
            pushTruth(people.hasMark(slot, value[values]) ? TRUE : FALSE);
            return FINE;
        }

        private void combine(int op, long number) {
            if (op == Policies.KNOWN) {
                pushTruth(people.sort[slotOf(number)] != Who.NOTHING ? TRUE : FALSE);
                return;
            }
            if (op == Policies.NOT) {
                if (truths >= 1 && truth[truths - 1] != UNKNOWN) {
                    truth[truths - 1] = TRUE - truth[truths - 1];
                }
                return;
            }
            if (truths < 2) {
                return;
            }
            truths -= 2;
            int left = truth[truths];
            int right = truth[truths + 1];
            // The left one is none that ends it: of and TRUE, of or FALSE, or UNKNOWN.
            int weaker = op == Policies.AND ? TRUE : FALSE;
            pushTruth(left == UNKNOWN && right == weaker ? UNKNOWN : right);
        }

        int thingAllowed(int policy, int act, int i) {
            int left = i;
            for (int t = 0; t < things.things; t++) {
                if (things.isThere(t) && answer(policy, act, t) == ANSWER_YES) {
                    if (left == 0) {
                        return t;
                    }
                    left--;
                }
            }
            return NONE;
        }

        int personAllowed(int policy, int act, int asked, int i) {
            int left = i;
            for (int p = 0; p < people.persons; p++) {
                setPerson(p, people.groupsOf(p, moment, now));
                if (answer(policy, act, asked) == ANSWER_YES) {
                    if (left == 0) {
                        return p;
                    }
                    left--;
                }
            }
            return NONE;
        }

        int differences(int policy, int other) {
            sweeps++;
            hasCompared = true;
            compared[ONLY_SECOND] = 0;
            compared[ONLY_FIRST] = 0;
            compared[DIFFERS] = NONE;
            compared[DIFFERS + 1] = NONE;
            compared[DIFFERS + 2] = NONE;
            compared[REQUESTS] = 0;
            int differing = 0;
            for (int p = 0; p < people.persons; p++) {
                setPerson(p, people.groupsOf(p, moment, now));
                for (int act = 0; act < Things.ACTS; act++) {
                    for (int t = 0; t < things.things; t++) {
                        if (!things.isThere(t)) {
                            continue;
                        }
                        compared[REQUESTS]++;
                        int first = answer(policy, act, t);
                        int second = answer(other, act, t);
                        if (first != second) {
                            differing++;
                            noteDifference(first, second, act, t);
                        }
                    }
                }
            }
            return differing;
        }

        private void noteDifference(int first, int second, int act, int asked) {
            if (second == ANSWER_YES) {
                compared[ONLY_SECOND]++;
            } else if (first == ANSWER_YES) {
                compared[ONLY_FIRST]++;
            }
            if (compared[DIFFERS] == NONE) {
                compared[DIFFERS] = person;
                compared[DIFFERS + 1] = act;
                compared[DIFFERS + 2] = asked;
            }
        }

        int decidedBy(int policy, int rule) {
            sweeps++;
            int decided = 0;
            for (int p = 0; p < people.persons; p++) {
                setPerson(p, people.groupsOf(p, moment, now));
                for (int act = 0; act < Things.ACTS; act++) {
                    for (int t = 0; t < things.things; t++) {
                        if (things.isThere(t)) {
                            answer(policy, act, t);
                            decided += decision[RULE] == rule ? 1 : 0;
                        }
                    }
                }
            }
            return decided;
        }
    }

    /** Laws on groups, and sessions in which groups are on. */
    private static final class Roles {
        static final int LAWS = 20, SESSIONS = 8, MOST_PERSONS = 24;
        static final int APART = 0, NOT_AT_ONCE = 1, MOST = 2, BOTH = 3, GIVER = 4;
        /** Kinds of laws as bits. */
        static final int ALL_KINDS = 31, BY_BELONGING = 1 << APART | 1 << MOST | 1 << BOTH, BY_SESSIONS = 1 << NOT_AT_ONCE;

        private final Who people;
        int laws;
        private final int[] kind;
        private final int[] first;
        private final int[] second;
        int brokenLaw;
        int sessions;
        final int[] sessionPerson;
        final int[] on;
        private final int[] groups;

        Roles(Who people) {
            this.people = people;
            kind = new int[LAWS];
            first = new int[LAWS];
            second = new int[LAWS];
            sessionPerson = new int[SESSIONS];
            on = new int[SESSIONS];
            groups = new int[Who.PERSONS];
            brokenLaw = NONE;
        }

        int addLaw(int newKind, int g, int h) {
            kind[laws] = newKind;
            first[laws] = g;
            second[laws] = h;
            laws++;
            return laws - 1;
        }

        int addSession(int person) {
            sessionPerson[sessions] = person;
            sessions++;
            return sessions - 1;
        }

        /** The first GIVER law of a group when none of them holds; NONE when somebody may give it. */
        int refusingGiver(int group, int by, int now) {
            int refusing = NONE;
            int belongsTo = people.groupsOf(by, now, now);
            for (int l = 0; l < laws; l++) {
                if (kind[l] != GIVER || first[l] != group) {
                    continue;
                }
                if ((belongsTo >> second[l] & 1) == 1) {
                    return NONE;
                }
                if (refusing == NONE) {
                    refusing = l;
                }
            }
            return refusing;
        }

        int giveRow(int person, int group, int by, int until, int now) {
            brokenLaw = refusingGiver(group, by, now);
            if (brokenLaw != NONE) {
                return NO;
            }
            int row = people.addRow(person, group, now, until, now);
            brokenLaw = firstNotHolding(0, BY_BELONGING, now);
            if (brokenLaw != NONE || row >= Who.ROWS) {
                people.rows--;
                return brokenLaw != NONE ? NO : FULL;
            }
            return row;
        }

        int firstNotHolding(int from, int kinds, int now) {
            for (int p = 0; p < people.persons; p++) {
                groups[p] = people.groupsOf(p, now, now);
            }
            for (int l = from; l < laws; l++) {
                if ((kinds >> kind[l] & 1) == 1 && !doesLawHold(l)) {
                    return l;
                }
            }
            return NONE;
        }

        private boolean doesLawHold(int l) {
            if (kind[l] == NOT_AT_ONCE) {
                return !isBothOn(first[l], second[l]);
            }
            int members = 0;
            int inBoth = 0;
            for (int p = 0; p < people.persons; p++) {
                int inFirst = groups[p] >> first[l] & 1;
                members += inFirst;
                // Of MOST the second number is no group, but at most 24, and so a bit that is there.
                inBoth += inFirst & groups[p] >> second[l];
            }
            switch (kind[l]) {
                case APART:
                    return inBoth == 0;
                case MOST:
                    return members <= second[l];
                case BOTH:
                    return members == inBoth;
                default:
                    return true;
            }
        }

        private boolean isBothOn(int g, int h) {
            for (int s = 0; s < sessions; s++) {
                if ((on[s] >> g & on[s] >> h & 1) == 1) {
                    return true;
                }
            }
            return false;
        }

        int turnOn(int session, int group, int now) {
            brokenLaw = NONE;
            if ((on[session] >> group & 1) == 1) {
                return 0;
            }
            if ((people.groupsOf(sessionPerson[session], now, now) >> group & 1) == 0) {
                return NO;
            }
            on[session] |= 1 << group;
            brokenLaw = firstNotHolding(0, BY_SESSIONS, now);
            if (brokenLaw != NONE) {
                on[session] &= ~(1 << group);
                return NO;
            }
            return 1;
        }

        /** The groups, as bits, to which a session's person counts as belonging in it. */
        int groupsIn(int session, int now) {
            int belongsTo = people.groupsOf(sessionPerson[session], now, now);
            return people.reachedFrom(belongsTo & on[session], now, now);
        }
    }

    /** Works of steps, and the search for persons who fill them. */
    private static final class Works {
        static final int WORKS = 4, STEPS = 8, TIES = 12, MOST_TRIES = 20000;
        static final int UNLIKE = 0, SAME = 1, MOST = 2;

        private final Who people;
        int works;
        final int[] steps;
        private final int[] group;
        final int[] done;
        final int[] ties;
        private final int[] tieKind;
        private final int[] tieFirst;
        private final int[] tieSecond;
        final int[] kept;
        private final int[] set;
        private final int[] candidates;
        private int current;
        private int mostTries;
        int tried;

        Works(Who people) {
            this.people = people;
            steps = new int[WORKS];
            group = new int[WORKS * STEPS];
            done = new int[WORKS * STEPS];
            ties = new int[WORKS];
            tieKind = new int[WORKS * TIES];
            tieFirst = new int[WORKS * TIES];
            tieSecond = new int[WORKS * TIES];
            kept = new int[WORKS * STEPS];
            set = new int[STEPS];
            candidates = new int[STEPS];
            for (int i = 0; i < WORKS * STEPS; i++) {
                done[i] = NONE;
                kept[i] = NONE;
            }
        }

        int addStep(int work, int g) {
            group[work * STEPS + steps[work]] = g;
            steps[work]++;
            return steps[work] - 1;
        }

        int addTie(int work, int kind, int i, int j) {
            int at = work * TIES + ties[work];
            tieKind[at] = kind;
            tieFirst[at] = i;
            tieSecond[at] = j;
            ties[work]++;
            return ties[work] - 1;
        }

        boolean hasDone(int work, int person) {
            for (int i = 0; i < steps[work]; i++) {
                if (done[work * STEPS + i] == person) {
                    return true;
                }
            }
            return false;
        }

        /** Makes ready for a search in which one person, or none (NONE), is left out. */
        void prepare(int work, int leftOut, int now) {
            current = work;
            for (int i = 0; i < STEPS; i++) {
                set[i] = i < steps[work] ? done[work * STEPS + i] : NONE;
                candidates[i] = 0;
            }
            for (int p = 0; p < people.persons; p++) {
                int groups = p == leftOut ? 0 : people.groupsOf(p, now, now);
                for (int i = 0; i < steps[work]; i++) {
                    candidates[i] |= (groups >> group[work * STEPS + i] & 1) << p;
                }
            }
        }

        int search(int most) {
            tried = 0;
            mostTries = most;
            return searchFrom(0);
        }

        int searchWith(int i, int person, int most) {
            tried = 0;
            set[i] = person;
            if ((candidates[i] >> person & 1) == 0 || !doTiesHold()) {
                return 0;
            }
            return search(most);
        }

        private int searchFrom(int i) {
            if (i >= steps[current] || i >= STEPS) {
                return doTiesHold() ? 1 : 0;
            }
            if (set[i] != NONE) {
                return searchFrom(i + 1);
            }
            for (int p = 0; p < people.persons; p++) {
                if ((candidates[i] >> p & 1) == 0) {
                    continue;
                }
                if (tried >= mostTries) {
                    return 2;
                }
                tried++;
                set[i] = p;
                int found = doTiesHold() ? searchFrom(i + 1) : 0;
                if (found != 0) {
                    return found;
                }
            }
            set[i] = NONE;
            return 0;
        }

        /** Steps that nobody has yet keep no tie from holding. */
        private boolean doTiesHold() {
            int most = STEPS;
            for (int n = 0; n < ties[current]; n++) {
                int at = current * TIES + n;
                if (tieKind[at] == MOST) {
                    most = Math.min(most, tieFirst[at]);
                    continue;
                }
                int a = set[tieFirst[at]];
                int b = set[tieSecond[at]];
                if (a != NONE && b != NONE && (a == b) != (tieKind[at] == SAME)) {
                    return false;
                }
            }
            // Of several the least binds, so the steps are counted once for all.
            return most >= STEPS || !hasAnybodyMoreThan(most);
        }

        private boolean hasAnybodyMoreThan(int most) {
            for (int i = 0; i < STEPS; i++) {
                int has = 0;
                for (int j = 0; j < STEPS; j++) {
                    has += set[i] != NONE && set[i] == set[j] ? 1 : 0;
                }
                if (has > most) {
                    return true;
                }
            }
            return false;
        }

        void keep() {
            for (int i = 0; i < steps[current]; i++) {
                kept[current * STEPS + i] = set[i];
            }
        }
    }

    /** Rights lent on and taken back, and keys that could ever be had. */
    private static final class Lends {
        static final int LENDS = 60, MOST_FURTHER = 20;
        static final int FROM = 0, TO = 1, ACT = 2, THING = 3, UNTIL = 4, FURTHER = 5, USES = 6, TAKEN = 7, COLUMNS = 8;
        static final int HOLDERS = 12, ALL_BITS = 15, TAKE = 1, GRANT = 2;
        static final int GAIN_COLUMNS = 3;
        /** No more can come than each of four bits of each pair once. */
        private static final int MOST_GAINS = HOLDERS * HOLDERS * 4;

        private final Things things;
        int lends;
        final int[] lend;
        private final boolean[] stands;
        final int[] chain;
        int chainLength;
        private final int[] keys;
        private final int[] had;
        final int[] gain;
        private int gains;
        private boolean isWorkedOut;

        Lends(Things things) {
            this.things = things;
            lend = new int[LENDS * COLUMNS];
            stands = new boolean[LENDS];
            chain = new int[LENDS];
            keys = new int[HOLDERS * HOLDERS];
            had = new int[HOLDERS * HOLDERS];
            gain = new int[MOST_GAINS * GAIN_COLUMNS];
        }

        int add(int from, int to, int act, int thing, int until, int further, int uses) {
            int at = lends * COLUMNS;
            lend[at + FROM] = from;
            lend[at + TO] = to;
            lend[at + ACT] = act;
            lend[at + THING] = thing;
            lend[at + UNTIL] = until;
            lend[at + FURTHER] = further;
            lend[at + USES] = uses;
            lend[at + TAKEN] = 0;
            lends++;
            return lends - 1;
        }

        /**
         * Which lends give what they tell at a moment. A lend hangs on such as may be lent on further than itself
         * alone, so they are weighed from the furthest down, each once.
         */
        void weighAll(int t) {
            for (int l = 0; l < lends; l++) {
                stands[l] = false;
            }
            for (int further = MOST_FURTHER; further >= 0; further--) {
                for (int l = 0; l < lends; l++) {
                    int at = l * COLUMNS;
                    boolean lasts = lend[at + TAKEN] == 0 && t < lend[at + UNTIL] && lend[at + USES] != 0;
                    if (lend[at + FURTHER] == further && lasts) {
                        stands[l] = hasRight(lend[at + FROM], lend[at + ACT], lend[at + THING], further + 1);
                    }
                }
            }
        }

        boolean hasRight(int person, int act, int thing, int further) {
            return things.owner[thing] == person || lendGiving(person, act, thing, further) != NONE;
        }

        private int lendGiving(int person, int act, int thing, int further) {
            for (int l = 0; l < lends; l++) {
                int at = l * COLUMNS;
                if (stands[l] && lend[at + TO] == person && lend[at + FURTHER] >= further
                        && things.actHolds(lend[at + ACT], act) && things.isUnder(thing, lend[at + THING])) {
                    return l;
                }
            }
            return NONE;
        }

        /** Whether a right stands, by what was weighed last; its chain is kept. */
        boolean keepChain(int person, int act, int thing) {
            chainLength = 0;
            if (!hasRight(person, act, thing, 0)) {
                return false;
            }
            int by = person;
            int ofAct = act;
            int ofThing = thing;
            int further = 0;
            for (int n = 0; n < LENDS && things.owner[ofThing] != by; n++) {
                int l = lendGiving(by, ofAct, ofThing, further);
                if (l == NONE) {
                    return true;
                }
                chain[chainLength] = l;
                chainLength++;
                by = lend[l * COLUMNS + FROM];
                ofAct = lend[l * COLUMNS + ACT];
                ofThing = lend[l * COLUMNS + THING];
                further = lend[l * COLUMNS + FURTHER] + 1;
            }
            return true;
        }

        void spendChain() {
            for (int i = 0; i < chainLength; i++) {
                int at = chain[i] * COLUMNS + USES;
                if (lend[at] > 0) {
                    lend[at]--;
                }
            }
        }

        int setKey(int x, int y, int bits) {
            int was = keys[x * HOLDERS + y];
            keys[x * HOLDERS + y] = bits;
            isWorkedOut = false;
            return was;
        }

        int countGains() {
            if (isWorkedOut) {
                return gains;
            }
            isWorkedOut = true;
            gains = 0;
            for (int i = 0; i < HOLDERS * HOLDERS; i++) {
                had[i] = keys[i];
            }
            for (int round = 0; round <= MOST_GAINS; round++) {
                int before = gains;
                goRound();
                if (gains == before) {
                    break;
                }
            }
            return gains;
        }

        private void goRound() {
            for (int x = 0; x < HOLDERS; x++) {
                for (int y = 0; y < HOLDERS; y++) {
                    for (int z = 0; z < HOLDERS; z++) {
                        if ((had[x * HOLDERS + y] & TAKE) != 0) {
                            pass(y, x, z);
                        }
                        if ((had[x * HOLDERS + y] & GRANT) != 0) {
                            pass(x, y, z);
                        }
                    }
                }
            }
        }

        private void pass(int from, int to, int z) {
            int coming = had[from * HOLDERS + z] & ~had[to * HOLDERS + z];
            if (coming == 0 || gains >= MOST_GAINS) {
                return;
            }
            had[to * HOLDERS + z] |= coming;
            gain[gains * GAIN_COLUMNS] = to;
            gain[gains * GAIN_COLUMNS + 1] = z;
            gain[gains * GAIN_COLUMNS + 2] = coming;
            gains++;
        }

        int gainsUntil(int x, int y, int bits) {
            int count = countGains();
            int has = keys[x * HOLDERS + y];
            if ((bits & ~has) == 0) {
                return 0;
            }
            for (int i = 0; i < count; i++) {
                int at = i * GAIN_COLUMNS;
                if (gain[at] == x && gain[at + 1] == y) {
                    has |= gain[at + 2];
                    if ((bits & ~has) == 0) {
                        return i + 1;
                    }
                }
            }
            return NONE;
        }
    }

    /** A program, judged by where its values flow, and run. */
    private static final class Flows {
        static final int VARIABLES = 10, LABELS = 14, CHANNELS = LABELS - VARIABLES, ALL_READERS = 255;
        static final int STATEMENTS = 60, MOST_REACH = 20, MOST_STEPS = 2000, MOST_SAID = 200, LOWERERS = 8;
        private static final int SET = 0, KEEP = 1, IF = 2, SAY = 3, LOWER = 4, WHILE = 5;

        final int[] label;
        int statements;
        private final int[] kind;
        private final int[] a;
        private final int[] b;
        private final int[] c;
        final int[] given;
        final int[] value;
        final int[] said;
        final int[] saidCount;
        private final int[] loop;
        private int loops;

        Flows() {
            label = new int[LABELS];
            for (int v = 0; v < LABELS; v++) {
                label[v] = ALL_READERS;
            }
            kind = new int[STATEMENTS];
            a = new int[STATEMENTS];
            b = new int[STATEMENTS];
            c = new int[STATEMENTS];
            given = new int[VARIABLES];
            value = new int[VARIABLES];
            said = new int[CHANNELS * MOST_SAID];
            saidCount = new int[CHANNELS];
            loop = new int[STATEMENTS];
        }

        private static boolean isVariable(int v) {
            return v >= 0 && v < VARIABLES;
        }

        static boolean isStatement(int kind, int a, int b, int c) {
            if (!isVariable(a)) {
                return false;
            }
            switch (kind) {
                case SET:
                    return isVariable(b) && isVariable(c);
                case KEEP:
                    return true;
                case IF:
                case WHILE:
                    return b >= 0 && b <= MOST_REACH;
                case SAY:
                    return b >= VARIABLES && b < LABELS;
                case LOWER:
                    return isVariable(b) && c >= 0 && c < LOWERERS;
                default:
                    return false;
            }
        }

        private static boolean isBlock(int kind) {
            return kind == IF || kind == WHILE;
        }

        /** Whether one statement stands in the block of another one. */
        private boolean isWithin(int s, int block) {
            return isBlock(kind[block]) && block < s && s <= block + b[block];
        }

        boolean reachesOut(int newKind, int n) {
            int s = statements;
            for (int block = 0; block < s; block++) {
                if (isBlock(newKind) && isWithin(s, block) && s + n > block + b[block]) {
                    return true;
                }
            }
            return false;
        }

        int addStatement(int newKind, int newA, int newB, int newC) {
            kind[statements] = newKind;
            a[statements] = newA;
            b[statements] = newB;
            c[statements] = newC;
            statements++;
            return statements - 1;
        }

        int firstLoose() {
            for (int s = 0; s < statements; s++) {
                if (!isTight(s)) {
                    return s;
                }
            }
            return NONE;
        }

        private boolean isTight(int s) {
            int readers = ALL_READERS;
            for (int block = 0; block < s; block++) {
                readers &= isWithin(s, block) ? label[a[block]] : ALL_READERS;
            }
            switch (kind[s]) {
                case SET:
                    return doesFlow(readers & label[b[s]] & label[c[s]], label[a[s]]);
                case KEEP:
                    return doesFlow(readers, label[a[s]]);
                case SAY:
                    return doesFlow(readers & label[a[s]], label[b[s]]);
                case LOWER:
                    return doesFlow(readers, label[a[s]]) && (label[b[s]] >> c[s] & 1) == 1;
                default:
                    return true;
            }
        }

        private static boolean doesFlow(int from, int to) {
            return (to & ~from) == 0;
        }

        int countLowers() {
            int lowers = 0;
            for (int s = 0; s < statements; s++) {
                lowers += kind[s] == LOWER ? 1 : 0;
            }
            return lowers;
        }

        int run(int most) {
            for (int v = 0; v < VARIABLES; v++) {
                value[v] = given[v];
            }
            for (int channel = 0; channel < CHANNELS; channel++) {
                saidCount[channel] = 0;
            }
            loops = 0;
            int s = 0;
            for (int n = 0; n < most; n++) {
                s = behindBlock(s);
                if (s >= statements) {
                    return 1;
                }
                s = runOne(s);
            }
            return behindBlock(s) >= statements ? 1 : 0;
        }

        /** At the end of what a WHILE repeats, what is not there yet being empty, it is asked again. */
        private int behindBlock(int s) {
            if (loops == 0) {
                return s;
            }
            int latest = loop[loops - 1];
            if (s <= latest + b[latest] && s < statements) {
                return s;
            }
            loops--;
            return latest;
        }

        private int runOne(int s) {
            switch (kind[s]) {
                case SET:
                    value[a[s]] = value[b[s]] + value[c[s]];
                    break;
                case KEEP:
                    value[a[s]] = b[s];
                    break;
                case SAY:
                    sayOn(b[s] - VARIABLES, value[a[s]]);
                    break;
                case LOWER:
                    value[a[s]] = value[b[s]];
                    break;
                default:
                    return runBlock(s);
            }
            return s + 1;
        }

        private int runBlock(int s) {
            if (value[a[s]] == 0) {
                return s + 1 + b[s];
            }
            if (kind[s] == WHILE && loops < STATEMENTS) {
                loop[loops] = s;
                loops++;
            }
            return s + 1;
        }

        private void sayOn(int channel, int number) {
            if (saidCount[channel] < MOST_SAID) {
                said[channel * MOST_SAID + saidCount[channel]] = number;
                saidCount[channel]++;
            }
        }
    }

    /** Sums of guarded numbers, told as long as they give nobody's number away. */
    private static final class Guard {
        static final int ASKERS = 4, MOST_TOLD = 40, WIDTH = Who.PERSONS;

        final long[] number;
        private final int[] told;
        final int[] toldCount;
        final int[] circle;
        private final long[][] basis;
        private final int[] pivot;
        private int rank;
        private long common;
        private final long[] reduced;

        Guard() {
            number = new long[WIDTH];
            told = new int[ASKERS * MOST_TOLD];
            toldCount = new int[ASKERS];
            circle = new int[ASKERS];
            for (int asker = 0; asker < ASKERS; asker++) {
                circle[asker] = 1 << asker;
            }
            basis = new long[WIDTH][WIDTH];
            pivot = new int[WIDTH];
            reduced = new long[WIDTH];
        }

        long total(int set) {
            long total = 0;
            for (int p = 0; p < WIDTH; p++) {
                total += (set >> p & 1) * number[p];
            }
            return total;
        }

        boolean wasTold(int asker, int set) {
            for (int i = 0; i < toldCount[asker]; i++) {
                if (told[asker * MOST_TOLD + i] == set) {
                    return true;
                }
            }
            return false;
        }

        void tell(int asker, int set) {
            told[asker * MOST_TOLD + toldCount[asker]] = set;
            toldCount[asker]++;
        }

        void join(int askers) {
            for (int asker = 0; asker < ASKERS; asker++) {
                if ((askers >> asker & 1) == 1) {
                    circle[asker] = askers;
                }
            }
        }

        int countSets(int askers) {
            int sets = 0;
            for (int asker = 0; asker < ASKERS; asker++) {
                if ((askers >> asker & 1) == 0) {
                    continue;
                }
                for (int i = 0; i < toldCount[asker]; i++) {
                    int ahead = askers & (1 << asker) - 1;
                    sets += wasToldToAny(ahead, told[asker * MOST_TOLD + i]) ? 0 : 1;
                }
            }
            return sets;
        }

        private boolean wasToldToAny(int askers, int set) {
            for (int asker = 0; asker < ASKERS; asker++) {
                if ((askers >> asker & 1) == 1 && wasTold(asker, set)) {
                    return true;
                }
            }
            return false;
        }

        int rankOf(int askers) {
            rank = 0;
            common = 1;
            for (int asker = 0; asker < ASKERS; asker++) {
                if ((askers >> asker & 1) == 1) {
                    for (int i = 0; i < toldCount[asker]; i++) {
                        addRow(told[asker * MOST_TOLD + i]);
                    }
                }
            }
            return rank;
        }

        /** Somebody's number can be worked out just when a row of the reduced basis is that person's alone. */
        boolean wouldReveal(int askers, int set) {
            rankOf(askers);
            addRow(set);
            for (int r = 0; r < rank; r++) {
                int persons = 0;
                for (int p = 0; p < WIDTH; p++) {
                    persons += basis[r][p] != 0 ? 1 : 0;
                }
                if (persons == 1) {
                    return true;
                }
            }
            return false;
        }

        /**
         * The basis is kept reduced, all its rows over one common denominator. So each entry is a determinant of a
         * part of the sets, at most 20 wide, of 0 and 1 alone: below 2 to the power 27, and no product runs over.
         */
        private void addRow(int set) {
            int lead = reduce(set);
            if (lead == NONE || rank >= WIDTH || common == 0) {
                return;
            }
            for (int r = 0; r < rank; r++) {
                long factor = basis[r][lead];
                for (int p = 0; p < WIDTH; p++) {
                    basis[r][p] = (reduced[lead] * basis[r][p] - factor * reduced[p]) / common;
                }
            }
            for (int p = 0; p < WIDTH; p++) {
                basis[rank][p] = reduced[p];
            }
            pivot[rank] = lead;
            rank++;
            common = reduced[lead];
        }

        /** The first person who is left of a set when the basis is taken out of it; NONE if nobody is. */
        private int reduce(int set) {
            int lead = NONE;
            for (int p = WIDTH - 1; p >= 0; p--) {
                long left = common * (set >> p & 1);
                for (int r = 0; r < rank; r++) {
                    left -= (set >> pivot[r] & 1) * basis[r][p];
                }
                reduced[p] = left;
                lead = left != 0 ? p : lead;
            }
            return lead;
        }
    }

    /** Methods in rooms, and what they may do by who has called. */
    private static final class Gates {
        static final int ROOMS = 6, METHODS = 12, OPS = 12, ALL_RIGHTS = 65535, MOST_OPS = 1000, FRAMES = 20;
        static final int ENTERED = 8;
        private static final int CALL = 0, MARK = 1, NEED = 2, TRY = 3, COUNT = 4;
        private static final int OPS_RUN = 0, COUNTED = 1, ENDED = 2, CALLS = 3;
        private static final int AT_METHOD = 4, AT_OP = 5, LACKING = 6, THROWN = 7;
        private static final int GOES_ON = -1, AT_END = 0, REFUSED = 1, DEEP = 2, OP_DUE = 3, NO_METHOD = 4;

        int rooms;
        private final int[] rights;
        int methods;
        private final int[] methodRoom;
        final int[] ops;
        private final int[] opKind;
        private final int[] opFirst;
        private final int[] opSecond;
        private final int[] frameMethod;
        private final int[] frameOp;
        private final int[] frameKind;
        private final int[] frameRights;
        private int frames;
        final int[] entered;

        Gates() {
            rights = new int[ROOMS];
            methodRoom = new int[METHODS];
            ops = new int[METHODS];
            opKind = new int[METHODS * OPS];
            opFirst = new int[METHODS * OPS];
            opSecond = new int[METHODS * OPS];
            frameMethod = new int[FRAMES];
            frameOp = new int[FRAMES];
            frameKind = new int[FRAMES];
            frameRights = new int[FRAMES];
            entered = new int[ENTERED];
            entered[AT_METHOD] = NONE;
            entered[AT_OP] = NONE;
        }

        static boolean areRights(int some) {
            return some >= 0 && some <= ALL_RIGHTS;
        }

        static boolean isOp(int kind, int a, int b) {
            boolean isMethod = a >= 0 && a < METHODS;
            switch (kind) {
                case CALL:
                case TRY:
                    return isMethod;
                case MARK:
                    return isMethod && areRights(b);
                case NEED:
                    return areRights(a);
                case COUNT:
                    return true;
                default:
                    return false;
            }
        }

        int addRoom(int some) {
            rights[rooms] = some;
            rooms++;
            return rooms - 1;
        }

        int addMethod(int room) {
            methodRoom[methods] = room;
            methods++;
            return methods - 1;
        }

        int addOp(int method, int kind, int a, int b) {
            int at = method * OPS + ops[method];
            opKind[at] = kind;
            opFirst[at] = a;
            opSecond[at] = b;
            ops[method]++;
            return ops[method] - 1;
        }

        int run(int method, int mostOps) {
            for (int what = 0; what < ENTERED; what++) {
                entered[what] = what == AT_METHOD || what == AT_OP ? NONE : 0;
            }
            frames = 0;
            entered[CALLS] = 1;
            push(method, CALL, 0);
            // Each time round an op is run or a frame ends, and each frame but the first one came by an op.
            for (int n = 0; n < 2 * MOST_OPS + 2; n++) {
                int outcome = goOn(mostOps);
                if (outcome != GOES_ON) {
                    return outcome;
                }
            }
            return OP_DUE;
        }

        private void push(int method, int kind, int narrowed) {
            frameMethod[frames] = method;
            frameOp[frames] = 0;
            frameKind[frames] = kind;
            frameRights[frames] = narrowed;
            frames++;
        }

        private int goOn(int mostOps) {
            int top = frames - 1;
            int method = frameMethod[top];
            int next = frameOp[top];
            if (next >= ops[method]) {
                frames--;
                entered[ENDED]++;
                return frames == 0 ? AT_END : GOES_ON;
            }
            if (entered[OPS_RUN] >= mostOps) {
                return OP_DUE;
            }
            entered[OPS_RUN]++;
            frameOp[top]++;
            int at = method * OPS + next;
            switch (opKind[at]) {
                case NEED:
                    int lacking = lackingOf(opFirst[at]);
                    return lacking == 0 ? GOES_ON : throwOut(REFUSED, lacking, false);
                case COUNT:
                    entered[COUNTED] += opFirst[at];
                    return GOES_ON;
                default:
                    return callBy(at);
            }
        }

        private int callBy(int at) {
            entered[CALLS]++;
            if (opFirst[at] >= methods) {
                return NO_METHOD;
            }
            if (frames >= FRAMES) {
                return throwOut(DEEP, 0, opKind[at] == TRY);
            }
            push(opFirst[at], opKind[at], opSecond[at]);
            return GOES_ON;
        }

        private int lackingIn(int frame, int needed) {
            return needed & ~rights[methodRoom[frameMethod[frame]]];
        }

        /** The rights that are lacking at the first that has not all; 0 when nothing is lacking. */
        private int lackingOf(int needed) {
            for (int f = frames - 1; f >= 0; f--) {
                int lacking = lackingIn(f, needed);
                if (lacking != 0) {
                    return lacking;
                }
                if (frameKind[f] == MARK) {
                    int narrowed = needed & ~frameRights[f];
                    return narrowed != 0 || f == 0 ? narrowed : lackingIn(f - 1, needed);
                }
            }
            return 0;
        }

        /** What a TRY itself throws, its call being too deep, goes on behind it without any frame's end. */
        private int throwOut(int what, int lacking, boolean isCaught) {
            int top = frames - 1;
            entered[THROWN]++;
            entered[AT_METHOD] = frameMethod[top];
            entered[AT_OP] = frameOp[top] - 1;
            entered[LACKING] = lacking;
            boolean goesOn = isCaught;
            for (int n = 0; n < FRAMES && frames > 0 && !goesOn; n++) {
                frames--;
                entered[ENDED]++;
                goesOn = frameKind[frames] == TRY;
            }
            return goesOn ? GOES_ON : what;
        }
    }
}
