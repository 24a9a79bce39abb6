import java.math.BigInteger;
import java.util.ArrayList;
import java.util.Arrays;
import java.util.HashSet;
import java.util.List;
import java.util.Set;
import java.util.TreeSet;

/**
 * The document worked out a second time, as its words go and with the Java library: lists, recursion, doubles, big
 * numbers, exceptions. It shares no line with the program, so that one slip is not made twice.
 */
final class Second {
    private static final int BAD = -1, NO = -2, FULL = -3, NONE = -4;
    private static final int LAST = 1000000000;

    private int now;
    private final List<Integer> tape = new ArrayList<>();

    /** Thrown where a call ends early, with its answer. */
    private static final class Answer extends RuntimeException {
        private static final long serialVersionUID = 1;
        final int answer;

        Answer(int answer) {
            super(null, null, false, false);
            this.answer = answer;
        }
    }

    private static void refuse(int answer, boolean if0) {
        if (if0) {
            throw new Answer(answer);
        }
    }

    private static void bad(boolean is) {
        refuse(BAD, is);
    }

    private static boolean out(long i, long from, long to) {
        return i < from || i > to;
    }

    // ---- the tape

    int feed(int n, long w) {
        bad(out(n, 1, 8));
        refuse(FULL, tape.size() + n > 1200);
        byte[] bytes = java.nio.ByteBuffer.allocate(8).putLong(w).array();
        for (int i = 8 - n; i < 8; i++) {
            tape.add(Byte.toUnsignedInt(bytes[i]));
        }
        return tape.size();
    }

    int cut(int n) {
        bad(out(n, 0, tape.size()));
        int go = 0;
        while (tape.size() > n) {
            tape.remove(tape.size() - 1);
            go++;
        }
        return go;
    }

    int tick(int n) {
        bad(out(n, 0, 1000000));
        refuse(NO, (long) now + n > LAST);
        return now += n;
    }

    // ---- 1 who

    private static final class Row {
        int member;
        int group;
        int from;
        int until;
        int knownFrom;
        int knownUntil = NONE;

        boolean stands(int t, int known) {
            return t >= from && t < until && known >= knownFrom && (knownUntil == NONE || known < knownUntil);
        }
    }

    private static final class Feature {
        int sort;
        long[] items = new long[0];
    }

    int persons;
    int groups;
    final List<Row> rows = new ArrayList<>();
    private final Feature[][] ofPerson = new Feature[20][8];
    private final Feature[][] ofThing = new Feature[40][8];

    int person() {
        refuse(FULL, persons == 20);
        return persons++;
    }

    int group() {
        refuse(FULL, groups == 16);
        return groups++;
    }

    private void badPerson(int p) {
        bad(out(p, 0, persons - 1));
    }

    private void badGroup(int g) {
        bad(out(g, 0, groups - 1));
    }

    private static void badMoment(int t) {
        bad(out(t, 0, LAST));
    }

    int put(int member, int group, int from, int until) {
        if (member >= 100) {
            badGroup(member - 100);
        } else {
            badPerson(member);
        }
        badGroup(group);
        badMoment(from);
        badMoment(until);
        bad(until <= from);
        refuse(NO, member >= 100 && (member - 100 == group || leadsEver(group, member - 100, new HashSet<>())));
        refuse(FULL, rows.size() == 200);
        return putRow(member, group, from, until);
    }

    private int putRow(int member, int group, int from, int until) {
        Row row = new Row();
        row.member = member;
        row.group = group;
        row.from = from;
        row.until = until;
        row.knownFrom = now;
        rows.add(row);
        return rows.size() - 1;
    }

    private boolean leadsEver(int from, int to, Set<Integer> seen) {
        for (Row row : rows) {
            if (row.knownUntil == NONE && row.member == 100 + from && seen.add(row.group)
                    && (row.group == to || leadsEver(row.group, to, seen))) {
                return true;
            }
        }
        return false;
    }

    int back(int row) {
        bad(out(row, 0, rows.size() - 1));
        refuse(NO, rows.get(row).knownUntil != NONE);
        rows.get(row).knownUntil = now;
        return 1;
    }

    private void reach(int member, int t, int known, Set<Integer> reached) {
        for (Row row : rows) {
            if (row.member == member && row.stands(t, known) && reached.add(row.group)) {
                reach(100 + row.group, t, known, reached);
            }
        }
    }

    private Set<Integer> groupsOf(int member, int t, int known) {
        Set<Integer> reached = new TreeSet<>();
        reach(member, t, known, reached);
        return reached;
    }

    int belongs(int person, int group, int t, int known) {
        badPerson(person);
        badGroup(group);
        badMoment(t);
        badMoment(known);
        return groupsOf(person, t, known).contains(group) ? 1 : 0;
    }

    private boolean belongsNow(int person, int group) {
        return groupsOf(person, now, now).contains(group);
    }

    int rowOf(int row, int what) {
        bad(out(row, 0, rows.size() - 1) || out(what, 0, 5));
        Row r = rows.get(row);
        return new int[] {r.member, r.group, r.from, r.until, r.knownFrom, r.knownUntil}[what];
    }

    private Feature featureOf(int bearer, int feature) {
        bad(out(feature, 0, 7));
        Feature[] all;
        if (bearer >= 100) {
            badThing(bearer - 100);
            all = ofThing[bearer - 100];
        } else {
            badPerson(bearer);
            all = ofPerson[bearer];
        }
        if (all[feature] == null) {
            all[feature] = new Feature();
        }
        return all[feature];
    }

    int feature(int bearer, int feature, int sort, int n) {
        Feature f = featureOf(bearer, feature);
        bad(out(sort, 0, 3) || sort != 0 && n > 20);
        refuse(-13, sort != 0 && n < 0);
        f.sort = sort;
        f.items = new long[sort == 0 ? 0 : n];
        return f.items.length;
    }

    int item(int bearer, int feature, int i, long v) {
        Feature f = featureOf(bearer, feature);
        refuse(-11, f.sort == 0);
        refuse(-12, out(i, 0, f.items.length - 1));
        f.items[i] = f.sort == 1 ? v : f.sort == 3 ? (int) v : Double.doubleToLongBits(Double.longBitsToDouble(v));
        return 1;
    }

    long itemOf(int bearer, int feature, int sort, int i) {
        Feature f = featureOf(bearer, feature);
        bad(out(sort, 1, 3));
        refuse(-11, f.sort == 0);
        refuse(-14, f.sort != sort);
        refuse(-12, out(i, 0, f.items.length - 1));
        return f.items[i];
    }

    int copy(int bearer, int feature, int i, int other, int into, int j, int n) {
        Feature f = featureOf(bearer, feature);
        Feature g = featureOf(other, into);
        refuse(-11, f.sort == 0 || g.sort == 0);
        refuse(-14, f.sort != g.sort);
        refuse(-12, i < 0 || j < 0 || n < 0 || (long) i + n > f.items.length || (long) j + n > g.items.length);
        long[] between = Arrays.copyOfRange(f.items, i, i + n);
        for (int k = 0; k < n; k++) {
            g.items[j + k] = between[k];
        }
        return n;
    }

    // ---- 2 things

    private static final class Thing {
        int place = NONE;
        int owner = NONE;
        boolean cut;
        boolean gone;
    }

    final List<Thing> things = new ArrayList<>(List.of(new Thing()));
    private final boolean[][] told = new boolean[6][6];

    {
        Arrays.fill(told[5], true);
        told[1][0] = true;
    }

    private void badThing(int t) {
        bad(out(t, 0, things.size() - 1) || things.get(t).gone);
    }

    int thing(int place, int owner) {
        badThing(place);
        if (owner != NONE) {
            badPerson(owner);
        }
        refuse(FULL, things.size() == 40);
        Thing thing = new Thing();
        thing.place = place;
        thing.owner = owner;
        things.add(thing);
        return things.size() - 1;
    }

    int move(int thing, int place) {
        badThing(thing);
        badThing(place);
        bad(thing == 0);
        for (int at = place; at != NONE; at = things.get(at).place) {
            refuse(NO, at == thing);
        }
        things.get(thing).place = place;
        return 1;
    }

    int cutOff(int thing, boolean is) {
        badThing(thing);
        boolean was = things.get(thing).cut;
        things.get(thing).cut = is;
        return was == is ? 0 : 1;
    }

    int drop(int thing) {
        badThing(thing);
        bad(thing == 0);
        for (Thing other : things) {
            refuse(NO, other.place == thing && !other.gone);
        }
        things.get(thing).gone = true;
        return 1;
    }

    private int depth(int thing) {
        return things.get(thing).place == NONE ? 0 : 1 + depth(things.get(thing).place);
    }

    int thingOf(int thing, int what) {
        bad(out(thing, 0, things.size() - 1) || out(what, 0, 4));
        Thing t = things.get(thing);
        return new int[] {t.place, t.owner, t.cut ? 1 : 0, t.gone ? 1 : 0, depth(thing)}[what];
    }

    private boolean isUnder(int thing, int other) {
        Thing t = things.get(thing);
        return thing == other || t.place != NONE && !t.cut && isUnder(t.place, other);
    }

    int under(int thing, int other) {
        badThing(thing);
        badThing(other);
        return isUnder(thing, other) ? 1 : 0;
    }

    private static void badAct(int act) {
        bad(out(act, 0, 5));
    }

    int holds(int act, int other, boolean is) {
        badAct(act);
        badAct(other);
        bad(act == other);
        boolean was = told[act][other];
        told[act][other] = is;
        return was == is ? 0 : 1;
    }

    private boolean actHolds(int act, int other, Set<Integer> seen) {
        if (act == other) {
            return true;
        }
        for (int between = 0; between < 6; between++) {
            if (told[act][between] && seen.add(between) && actHolds(between, other, seen)) {
                return true;
            }
        }
        return false;
    }

    private boolean actHolds(int act, int other) {
        return actHolds(act, other, new HashSet<>());
    }

    int doesHold(int act, int other) {
        badAct(act);
        badAct(other);
        return actHolds(act, other) ? 1 : 0;
    }

    // ---- 3 rules: the text

    private static final class Token {
        /** w WORD, n whole NUMBER, r REAL, s sign, e end, f none of these. */
        char kind;
        String text;
        int place;
    }

    private static final class Rule {
        int effect;
        String who;
        String act;
        String thing;
        Condition condition;
        int duty;
    }

    private static final class Policy {
        int way;
        final List<Rule> rules = new ArrayList<>();
    }

    private static final int FALSE = 0, TRUE = 1, UNKNOWN = 2, FAIL = 10;

    /** TRUE, FALSE, UNKNOWN, or FAIL and the FAILURE's number. */
    private interface Condition {
        int come(Request request);
    }

    /** A Long or a Double; an Answer is thrown for what is UNKNOWN or FAILS. */
    private interface Sum {
        Object come(Request request);
    }

    private static final class Request {
        int who;
        Set<Integer> groups;
        int thing;
        int moment;
    }

    private List<Token> tokensOf(String text) {
        List<Token> tokens = new ArrayList<>();
        java.util.regex.Matcher matcher = java.util.regex.Pattern
                .compile("[ \n]+|([a-z][a-z0-9]*)|([0-9]+\\.[0-9]+)|([0-9]+)|(<=|>=|<>|[()\\[\\]+\\-*/%<>=;.])|(.)",
                        java.util.regex.Pattern.DOTALL).matcher(text);
        while (matcher.find()) {
            for (int kind = 1; kind <= 5; kind++) {
                if (matcher.group(kind) != null) {
                    Token token = new Token();
                    token.kind = " wrnsf".charAt(kind);
                    token.text = matcher.group(kind);
                    token.place = matcher.start();
                    boolean isTooLong = token.kind == 'n' && token.text.length() > 9
                            || token.kind == 'r' && !token.text.matches("[0-9]{1,9}\\.[0-9]{1,6}");
                    token.kind = isTooLong ? 'f' : token.kind;
                    tokens.add(token);
                }
            }
        }
        Token end = new Token();
        end.kind = 'e';
        end.text = "";
        end.place = text.length();
        tokens.add(end);
        return tokens;
    }

    /** Reads a text; an Answer thrown in it is a FAULT's place. */
    private final class Reader {
        private final List<Token> tokens;
        private int at;
        private int deep;

        Reader(String text) {
            tokens = tokensOf(text);
        }

        private Token here() {
            return tokens.get(at);
        }

        private Answer fault() {
            return new Answer(here().place);
        }

        private boolean is(String text) {
            return here().kind != 'f' && here().text.equals(text) && here().kind != 'e';
        }

        private boolean takes(String text) {
            boolean is = is(text);
            at += is ? 1 : 0;
            return is;
        }

        private void must(String text) {
            if (!takes(text)) {
                throw fault();
            }
        }

        private void nest() {
            if (deep == 20) {
                throw fault();
            }
            deep++;
            at++;
        }

        Policy text(int way) {
            Policy policy = new Policy();
            policy.way = way;
            do {
                if (policy.rules.size() == 30) {
                    throw fault();
                }
                policy.rules.add(rule());
            } while (takes(";"));
            if (here().kind != 'e') {
                throw fault();
            }
            return policy;
        }

        private Rule rule() {
            Rule rule = new Rule();
            rule.effect = List.of("no", "yes", "maybe").indexOf(here().text);
            if (here().kind != 'w' || rule.effect < 0) {
                throw fault();
            }
            at++;
            rule.who = word("any|own|p[0-9]{1,9}|g[0-9]{1,9}");
            rule.act = word("[rwxdgo]|all");
            rule.thing = word("any|t[0-9]{1,9}");
            if (rule.thing.startsWith("t") && takes("/")) {
                rule.thing += "/";
            }
            if (takes("if")) {
                rule.condition = condition();
            }
            if (takes("must")) {
                if (here().kind != 'n' || Integer.parseInt(here().text) < 1) {
                    throw fault();
                }
                rule.duty = Integer.parseInt(here().text);
                at++;
            }
            return rule;
        }

        private String word(String form) {
            String text = here().text;
            if (here().kind != 'w' || !text.matches(form)) {
                throw fault();
            }
            boolean isThere = true;
            if (text.length() > 1 && Character.isDigit(text.charAt(1))) {
                int number = Integer.parseInt(text.substring(1));
                int count = text.charAt(0) == 'p' ? persons : text.charAt(0) == 'g' ? groups : things.size();
                isThere = number < count && (text.charAt(0) != 't' || !things.get(number).gone);
                text = text.charAt(0) + "" + number;
            }
            if (!isThere) {
                throw fault();
            }
            at++;
            return text;
        }

        private Condition condition() {
            List<Condition> parts = new ArrayList<>();
            do {
                parts.add(part());
            } while (takes("or"));
            return joined(parts, TRUE);
        }

        private Condition part() {
            List<Condition> parts = new ArrayList<>();
            do {
                parts.add(such());
            } while (takes("and"));
            return joined(parts, FALSE);
        }

        /** Or when TRUE ends it, and when FALSE does. */
        private Condition joined(List<Condition> parts, int ending) {
            Condition all = parts.get(0);
            for (int i = 1; i < parts.size(); i++) {
                Condition left = all;
                Condition right = parts.get(i);
                all = request -> {
                    int first = left.come(request);
                    if (first == ending || first >= FAIL) {
                        return first;
                    }
                    int second = right.come(request);
                    return first == UNKNOWN && second == TRUE - ending ? UNKNOWN : second;
                };
            }
            return all;
        }

        private Condition such() {
            if (is("not")) {
                nest();
                Condition inner = such();
                deep--;
                return request -> {
                    int comes = inner.come(request);
                    return comes == TRUE ? FALSE : comes == FALSE ? TRUE : comes;
                };
            }
            if (takes("known")) {
                int[] feature = feature();
                return request -> at(feature, request).sort == 0 ? FALSE : TRUE;
            }
            if (!is("(")) {
                return comparison();
            }
            int mark = at;
            int deepThen = deep;
            int faultAsCondition;
            try {
                nest();
                Condition inner = condition();
                must(")");
                deep--;
                return inner;
            } catch (Answer fault) {
                faultAsCondition = fault.answer;
            }
            at = mark;
            deep = deepThen;
            try {
                return comparison();
            } catch (Answer fault) {
                throw new Answer(Math.max(fault.answer, faultAsCondition));
            }
        }

        private Condition comparison() {
            Sum left = sum();
            if (takes("in")) {
                int[] feature = feature();
                return request -> among(left, feature, request);
            }
            String sign = here().text;
            if (here().kind != 's' || !List.of("<", "<=", "=", "<>", ">=", ">").contains(sign)) {
                throw fault();
            }
            at++;
            Sum right = sum();
            return request -> {
                try {
                    return compares(sign, left.come(request), right.come(request)) ? TRUE : FALSE;
                } catch (Answer ending) {
                    return ending.answer;
                }
            };
        }

        private int among(Sum left, int[] feature, Request request) {
            try {
                Object value = left.come(request);
                refuse(FAIL + 4, value instanceof Double);
                Feature f = at(feature, request);
                refuse(UNKNOWN, f.sort == 0);
                refuse(FAIL + 4, f.sort != 3);
                return Arrays.stream(f.items).anyMatch(mark -> mark == (Long) value) ? TRUE : FALSE;
            } catch (Answer ending) {
                return ending.answer;
            }
        }

        private boolean compares(String sign, Object x, Object y) {
            boolean isReal = x instanceof Double || y instanceof Double;
            double a = ((Number) x).doubleValue();
            double b = ((Number) y).doubleValue();
            long c = ((Number) x).longValue();
            long d = ((Number) y).longValue();
            switch (sign) {
                case "<":
                    return isReal ? a < b : c < d;
                case "<=":
                    return isReal ? a <= b : c <= d;
                case "=":
                    return isReal ? a == b : c == d;
                case "<>":
                    return isReal ? a != b : c != d;
                case ">=":
                    return isReal ? a >= b : c >= d;
                default:
                    return isReal ? a > b : c > d;
            }
        }

        private Sum sum() {
            Sum all = product();
            while (is("+") || is("-")) {
                all = worked(here().text, all, () -> product());
            }
            return all;
        }

        private Sum product() {
            Sum all = term();
            while (is("*") || is("/") || is("%")) {
                all = worked(here().text, all, () -> term());
            }
            return all;
        }

        private Sum worked(String sign, Sum left, java.util.function.Supplier<Sum> next) {
            at++;
            Sum right = next.get();
            return request -> {
                Object x = left.come(request);
                return work(sign, x, right.come(request));
            };
        }

        private Object work(String sign, Object x, Object y) {
            if (x instanceof Double || y instanceof Double) {
                double a = ((Number) x).doubleValue();
                double b = ((Number) y).doubleValue();
                return sign.equals("+") ? a + b : sign.equals("-") ? a - b : sign.equals("*") ? a * b
                        : sign.equals("/") ? a / b : a % b;
            }
            long a = (Long) x;
            long b = (Long) y;
            refuse(FAIL + 5, b == 0 && (sign.equals("/") || sign.equals("%")));
            return sign.equals("+") ? a + b : sign.equals("-") ? a - b : sign.equals("*") ? a * b
                    : sign.equals("/") ? a / b : a % b;
        }

        private Sum term() {
            Token token = here();
            if (is("-")) {
                nest();
                Sum inner = term();
                deep--;
                return request -> {
                    Object value = inner.come(request);
                    return value instanceof Double ? (Object) (-(Double) value) : (Object) (-(Long) value);
                };
            }
            if (is("(")) {
                nest();
                Sum inner = sum();
                must(")");
                deep--;
                return inner;
            }
            if (token.kind == 'n' || token.kind == 'r') {
                at++;
                Object number = token.kind == 'n' ? (Object) Long.parseLong(token.text) : (Object) Double.parseDouble(token.text);
                return request -> number;
            }
            if (takes("now")) {
                return request -> (long) request.moment;
            }
            if (takes("age")) {
                return request -> (long) now - request.moment;
            }
            if (takes("size")) {
                int[] feature = feature();
                return request -> {
                    refuse(UNKNOWN, at(feature, request).sort == 0);
                    return (long) at(feature, request).items.length;
                };
            }
            int[] feature = feature();
            if (!is("[")) {
                return request -> item(at(feature, request), 0);
            }
            nest();
            Sum place = sum();
            must("]");
            deep--;
            return request -> {
                Object value = place.come(request);
                refuse(FAIL + 4, value instanceof Double);
                return item(at(feature, request), (Long) value);
            };
        }

        private Object item(Feature f, long place) {
            refuse(UNKNOWN, f.sort == 0);
            refuse(FAIL + 2, out(place, 0, f.items.length - 1));
            long item = f.items[(int) place];
            return f.sort == 2 ? (Object) Double.longBitsToDouble(item) : (Object) item;
        }

        private int[] feature() {
            int whose = is("me") ? 0 : is("it") ? 1 : NONE;
            if (whose == NONE) {
                throw fault();
            }
            at++;
            must(".");
            if (here().kind != 'w' || !here().text.matches("[a-h]")) {
                throw fault();
            }
            int letter = here().text.charAt(0) - 'a';
            at++;
            return new int[] {whose, letter};
        }

        private Feature at(int[] feature, Request request) {
            return featureOf(feature[0] == 0 ? request.who : 100 + request.thing, feature[1]);
        }
    }

    // ---- 3 rules: what they answer

    final List<Policy> policies = new ArrayList<>();
    private final List<int[]> forces = new ArrayList<>();
    private int sweeps;
    private int[] made;
    private int[] compared;

    int policy(int way) {
        bad(out(way, 0, 3));
        refuse(FULL, policies.size() == 8);
        StringBuilder text = new StringBuilder();
        for (int b : tape) {
            text.append((char) b);
        }
        tape.clear();
        try {
            policies.add(new Reader(text.toString()).text(way));
        } catch (Answer fault) {
            return -10 - fault.answer;
        }
        return policies.size() - 1;
    }

    private void badPolicy(int policy) {
        bad(out(policy, 0, policies.size() - 1));
    }

    int rules(int policy) {
        badPolicy(policy);
        return policies.get(policy).rules.size();
    }

    int inForce(int policy) {
        badPolicy(policy);
        refuse(FULL, forces.size() == 40);
        forces.add(new int[] {now, policy});
        log(1, policy, 0, 0, 1);
        return 1;
    }

    private int policyAt(int t) {
        int policy = NONE;
        for (int[] force : forces) {
            policy = force[0] <= t ? force[1] : policy;
        }
        return policy;
    }

    /** What a rule SPEAKS to a request: an ANSWER, or FAIL and the FAILURE's number; NONE if it does not. */
    private int speaks(Rule rule, Request request, int act) {
        boolean fitsWho = rule.who.equals("any")
                || rule.who.equals("own") && things.get(request.thing).owner == request.who
                || rule.who.equals("p" + request.who)
                || rule.who.startsWith("g") && request.groups.contains(Integer.parseInt(rule.who.substring(1)));
        int own = "rwxdgo".indexOf(rule.act);
        boolean fitsAct = rule.act.equals("all") || (rule.effect == 0 ? actHolds(act, own) : actHolds(own, act));
        boolean fitsThing = rule.thing.equals("any") || rule.thing.equals("t" + request.thing)
                || rule.thing.endsWith("/") && isUnder(request.thing, thingOf(rule));
        if (!fitsWho || !fitsAct || !fitsThing) {
            return NONE;
        }
        int comes = rule.condition == null ? TRUE : rule.condition.come(request);
        if (comes >= FAIL) {
            return comes;
        }
        return comes == TRUE || comes == UNKNOWN && rule.effect != 1 ? rule.effect : NONE;
    }

    private static int thingOf(Rule rule) {
        return Integer.parseInt(rule.thing.replace("/", "").substring(1));
    }

    private int weight(Rule rule, int way) {
        if (way == 2) {
            return rule.thing.equals("any") ? -1 : 2 * depth(thingOf(rule)) + (rule.thing.endsWith("/") ? 0 : 1);
        }
        return way == 3 ? "agop".indexOf(rule.who.charAt(0)) : 0;
    }

    /** The ANSWER, the rule, its DUTY, the FAILURE's number, how many SPOKE. */
    private int[] judged(int policy, Request request, int act) {
        int[] result = {0, NONE, 0, 0, 0};
        if (policy == NONE) {
            return result;
        }
        Policy by = policies.get(policy);
        int best = Integer.MIN_VALUE;
        for (int r = 0; r < by.rules.size(); r++) {
            int spoken = speaks(by.rules.get(r), request, act);
            if (spoken == NONE) {
                continue;
            }
            result[4]++;
            int answer = spoken >= FAIL ? 3 : spoken;
            int rank = List.of(0, 3, 2, 1).indexOf(answer);
            int weight = by.way == 0 ? -r : weight(by.rules.get(r), by.way) * 1000 - rank * 100 - r;
            if (weight > best) {
                best = weight;
                result[0] = answer;
                result[1] = r;
                result[2] = by.rules.get(r).duty;
                result[3] = spoken >= FAIL ? spoken - FAIL : 0;
            }
        }
        return result;
    }

    private Request request(int who, int thing, int t) {
        Request request = new Request();
        request.who = who;
        request.groups = groupsOf(who, t, now);
        request.thing = thing;
        request.moment = t;
        return request;
    }

    int ask(int who, int act, int thing) {
        badPerson(who);
        badAct(act);
        badThing(thing);
        made = judged(policyAt(now), request(who, thing, now), act);
        log(0, who, act, thing, made[0]);
        return made[0];
    }

    int asked(int policy, int who, int act, int thing, int t) {
        badPolicy(policy);
        badPerson(who);
        badAct(act);
        badThing(thing);
        badMoment(t);
        made = judged(policy, request(who, thing, t), act);
        return made[0];
    }

    int made(int what) {
        bad(out(what, 0, 3));
        refuse(NO, made == null);
        return made[1 + what];
    }

    int may(int policy, int who, int act, int i) {
        badPolicy(policy);
        badPerson(who);
        badAct(act);
        bad(i < 0);
        List<Integer> all = new ArrayList<>();
        for (int t = 0; t < things.size(); t++) {
            if (!things.get(t).gone && judged(policy, request(who, t, now), act)[0] == 1) {
                all.add(t);
            }
        }
        return i < all.size() ? all.get(i) : NONE;
    }

    private int personAllowed(int policy, int act, int thing, int t, int i) {
        List<Integer> all = new ArrayList<>();
        for (int p = 0; p < persons; p++) {
            if (judged(policy, request(p, thing, t), act)[0] == 1) {
                all.add(p);
            }
        }
        return i < all.size() ? all.get(i) : NONE;
    }

    int who(int policy, int act, int thing, int i) {
        badPolicy(policy);
        badAct(act);
        badThing(thing);
        bad(i < 0);
        return personAllowed(policy, act, thing, now, i);
    }

    private List<int[]> allRequests() {
        List<int[]> all = new ArrayList<>();
        for (int p = 0; p < persons; p++) {
            for (int act = 0; act < 6; act++) {
                for (int t = 0; t < things.size(); t++) {
                    if (!things.get(t).gone) {
                        all.add(new int[] {p, act, t});
                    }
                }
            }
        }
        return all;
    }

    int compare(int policy, int other) {
        badPolicy(policy);
        badPolicy(other);
        refuse(FULL, sweeps == 20);
        sweeps++;
        int differ = 0;
        compared = new int[] {0, 0, NONE, NONE, NONE, 0};
        for (int[] asked : allRequests()) {
            Request request = request(asked[0], asked[2], now);
            int first = judged(policy, request, asked[1])[0];
            int second = judged(other, request, asked[1])[0];
            compared[5]++;
            compared[0] += second == 1 && first != 1 ? 1 : 0;
            compared[1] += first == 1 && second != 1 ? 1 : 0;
            if (first != second && differ++ == 0) {
                System.arraycopy(asked, 0, compared, 2, 3);
            }
        }
        return differ;
    }

    int compared(int what) {
        bad(out(what, 0, 5));
        refuse(NO, compared == null);
        return compared[what];
    }

    int decides(int policy, int rule) {
        badPolicy(policy);
        bad(out(rule, 0, policies.get(policy).rules.size() - 1));
        refuse(FULL, sweeps == 20);
        sweeps++;
        int decided = 0;
        for (int[] asked : allRequests()) {
            decided += judged(policy, request(asked[0], asked[2], now), asked[1])[1] == rule ? 1 : 0;
        }
        return decided;
    }

    // ---- 4 roles

    final List<int[]> laws = new ArrayList<>();
    private int broken = NONE;
    final List<Integer> sessions = new ArrayList<>();
    private final List<Set<Integer>> on = new ArrayList<>();

    int law(int kind, int g, int h) {
        bad(out(kind, 0, 4));
        badGroup(g);
        if (kind == 2) {
            bad(out(h, 0, 24));
        } else {
            badGroup(h);
            bad(g == h && kind != 4);
        }
        refuse(FULL, laws.size() == 20);
        laws.add(new int[] {kind, g, h});
        return laws.size() - 1;
    }

    private int giverRefusing(int group, int by) {
        int first = NONE;
        boolean mayGive = false;
        for (int l = laws.size() - 1; l >= 0; l--) {
            if (laws.get(l)[0] == 4 && laws.get(l)[1] == group) {
                first = l;
                mayGive |= belongsNow(by, laws.get(l)[2]);
            }
        }
        return mayGive ? NONE : first;
    }

    private boolean lawHolds(int[] law) {
        if (law[0] == 1) {
            return on.stream().noneMatch(some -> some.contains(law[1]) && some.contains(law[2]));
        }
        int members = 0;
        for (int p = 0; p < persons; p++) {
            boolean inFirst = belongsNow(p, law[1]);
            members += inFirst ? 1 : 0;
            if (law[0] == 0 && inFirst && belongsNow(p, law[2]) || law[0] == 3 && inFirst && !belongsNow(p, law[2])) {
                return false;
            }
        }
        return law[0] != 2 || members <= law[2];
    }

    private int firstBroken(int from, String kinds) {
        for (int l = from; l < laws.size(); l++) {
            if (kinds.indexOf('0' + laws.get(l)[0]) >= 0 && !lawHolds(laws.get(l))) {
                return l;
            }
        }
        return NONE;
    }

    int give(int person, int group, int by, int until) {
        badPerson(person);
        badGroup(group);
        badPerson(by);
        bad(until <= now || until > LAST);
        broken = giverRefusing(group, by);
        refuse(NO, broken != NONE);
        int row = putRow(person, group, now, until);
        broken = firstBroken(0, "023");
        if (broken != NONE || row == 200) {
            rows.remove(row);
            return broken != NONE ? NO : FULL;
        }
        log(2, person, group, by, row);
        return row;
    }

    int take(int person, int group, int by) {
        badPerson(person);
        badGroup(group);
        badPerson(by);
        refuse(NO, giverRefusing(group, by) != NONE);
        int taken = 0;
        for (Row row : rows) {
            if (row.member == person && row.group == group && row.knownUntil == NONE) {
                row.knownUntil = now;
                taken++;
            }
        }
        return taken;
    }

    int broken() {
        return broken;
    }

    int breach(int l) {
        bad(out(l, 0, laws.size()));
        return firstBroken(l, "0123");
    }

    int session(int person) {
        badPerson(person);
        refuse(FULL, sessions.size() == 8);
        sessions.add(person);
        on.add(new TreeSet<>());
        return sessions.size() - 1;
    }

    int switchOn(int session, int group) {
        bad(out(session, 0, sessions.size() - 1));
        badGroup(group);
        broken = NONE;
        refuse(0, on.get(session).contains(group));
        refuse(NO, !belongsNow(sessions.get(session), group));
        on.get(session).add(group);
        broken = firstBroken(0, "1");
        if (broken != NONE) {
            on.get(session).remove(group);
            return NO;
        }
        return 1;
    }

    int switchOff(int session, int group) {
        bad(out(session, 0, sessions.size() - 1));
        badGroup(group);
        return on.get(session).remove(group) ? 1 : 0;
    }

    int askIn(int session, int act, int thing) {
        bad(out(session, 0, sessions.size() - 1));
        badAct(act);
        badThing(thing);
        int person = sessions.get(session);
        Request request = request(person, thing, now);
        request.groups = new TreeSet<>();
        for (int group : on.get(session)) {
            if (belongsNow(person, group)) {
                request.groups.add(group);
                request.groups.addAll(groupsOf(100 + group, now, now));
            }
        }
        made = judged(policyAt(now), request, act);
        return made[0];
    }

    // ---- 5 works

    private static final class Work {
        final List<Integer> steps = new ArrayList<>();
        final List<Integer> done = new ArrayList<>();
        final List<int[]> ties = new ArrayList<>();
        int[] kept = new int[0];

        boolean holds(int[] set) {
            for (int[] tie : ties) {
                if (tie[0] == 2) {
                    for (int p = 0; p < 20; p++) {
                        int who = p;
                        if (Arrays.stream(set).filter(has -> has == who).count() > tie[1]) {
                            return false;
                        }
                    }
                } else if (set[tie[1]] != NONE && set[tie[2]] != NONE && (set[tie[1]] == set[tie[2]]) != (tie[0] == 1)) {
                    return false;
                }
            }
            return true;
        }
    }

    final List<Work> works = new ArrayList<>();
    private int tries;
    private int[] filling;

    int work() {
        refuse(FULL, works.size() == 4);
        works.add(new Work());
        return works.size() - 1;
    }

    private Work workAt(int work) {
        bad(out(work, 0, works.size() - 1));
        return works.get(work);
    }

    int step(int work, int group) {
        Work w = workAt(work);
        badGroup(group);
        refuse(FULL, w.steps.size() == 8);
        w.steps.add(group);
        w.done.add(NONE);
        return w.steps.size() - 1;
    }

    int tie(int work, int kind, int i, int j) {
        Work w = workAt(work);
        bad(out(kind, 0, 2));
        if (kind == 2) {
            bad(out(i, 1, 8));
        } else {
            bad(out(i, 0, w.steps.size() - 1) || out(j, 0, w.steps.size() - 1) || i == j);
        }
        refuse(FULL, w.ties.size() == 12);
        w.ties.add(new int[] {kind, i, j});
        return w.ties.size() - 1;
    }

    /** Goes on and back over the STEPS not DONE, each with the PERSON at whom it has come. */
    private int search(Work w, int[] set, int without, int most) {
        tries = 0;
        List<Integer> open = new ArrayList<>();
        for (int i = 0; i < set.length; i++) {
            if (set[i] == NONE) {
                open.add(i);
            }
        }
        int k = 0;
        while (k >= 0 && k < open.size()) {
            int step = open.get(k);
            int p = set[step] == NONE ? 0 : set[step] + 1;
            while (p < persons && (p == without || !belongsNow(p, w.steps.get(step)))) {
                p++;
            }
            if (p == persons) {
                set[step] = NONE;
                k--;
                continue;
            }
            if (tries == most) {
                return 2;
            }
            tries++;
            set[step] = p;
            k += w.holds(set) ? 1 : 0;
        }
        filling = set;
        return k >= 0 && w.holds(set) ? 1 : 0;
    }

    private static int[] doneOf(Work w) {
        return w.done.stream().mapToInt(p -> p).toArray();
    }

    private static void badTries(int tries) {
        bad(out(tries, 1, 20000));
    }

    int fill(int work, int most) {
        Work w = workAt(work);
        badTries(most);
        int found = search(w, doneOf(w), NONE, most);
        w.kept = found == 1 ? filling : w.kept;
        return found;
    }

    int filled(int work, int i) {
        Work w = workAt(work);
        bad(out(i, 0, w.steps.size() - 1));
        return i < w.kept.length ? w.kept[i] : NONE;
    }

    int next(int work, int i, int person, int most) {
        Work w = workAt(work);
        bad(out(i, 0, w.steps.size() - 1));
        badPerson(person);
        badTries(most);
        refuse(NO, w.done.get(i) != NONE);
        tries = 0;
        int[] set = doneOf(w);
        set[i] = person;
        return !belongsNow(person, w.steps.get(i)) || !w.holds(set) ? 0 : search(w, set, NONE, most);
    }

    int perform(int work, int i, int person, int most) {
        int next = next(work, i, person, most);
        if (next == 1) {
            works.get(work).done.set(i, person);
        }
        return next;
    }

    int needed(int work, int person, int most) {
        Work w = workAt(work);
        badPerson(person);
        badTries(most);
        int found = search(w, doneOf(w), NONE, most);
        if (found != 1) {
            return found;
        }
        if (w.done.contains(person)) {
            tries = 0;
            return 1;
        }
        int without = search(w, doneOf(w), person, most);
        return without == 1 ? 0 : without == 0 ? 1 : 2;
    }

    int tries() {
        return tries;
    }

    // ---- 6 lends

    final List<int[]> lends = new ArrayList<>();
    private List<Integer> chain = new ArrayList<>();

    /** THE CHAIN by which a RIGHT STANDS, or null. */
    private List<Integer> chainOf(int person, int act, int thing, int t, int further) {
        if (things.get(thing).owner == person) {
            return new ArrayList<>();
        }
        for (int l = 0; l < lends.size(); l++) {
            int[] lend = lends.get(l);
            boolean gives = lend[1] == person && lend[7] == 0 && t < lend[4] && lend[6] != 0 && actHolds(lend[2], act)
                    && isUnder(thing, lend[3]) && lend[5] >= further;
            List<Integer> behind = gives ? chainOf(lend[0], lend[2], lend[3], t, lend[5] + 1) : null;
            if (behind != null) {
                behind.add(0, l);
                return behind;
            }
        }
        return null;
    }

    int lend(int from, int to, int act, int thing, int until, int further, int uses) {
        badPerson(from);
        badPerson(to);
        badAct(act);
        badThing(thing);
        bad(from == to || until <= now || until > LAST || out(further, 0, 20) || uses < -1);
        refuse(NO, chainOf(from, act, thing, now, further + 1) == null);
        refuse(FULL, lends.size() == 60);
        lends.add(new int[] {from, to, act, thing, until, further, uses, 0});
        log(3, from, to, lends.size() - 1, lends.size() - 1);
        return lends.size() - 1;
    }

    int endLend(int l, int by) {
        bad(out(l, 0, lends.size() - 1));
        badPerson(by);
        int[] lend = lends.get(l);
        refuse(NO, lend[7] == 1 || by != lend[0] && by != things.get(lend[3]).owner);
        return lend[7] = 1;
    }

    private boolean keepChain(int person, int act, int thing, int t) {
        List<Integer> found = chainOf(person, act, thing, t, 0);
        chain = found == null ? new ArrayList<>() : found;
        return found != null;
    }

    int stands(int person, int act, int thing, int t) {
        badPerson(person);
        badAct(act);
        badThing(thing);
        badMoment(t);
        return keepChain(person, act, thing, t) ? 1 : 0;
    }

    int chain(int i) {
        bad(out(i, -1, chain.size() - 1));
        return i == -1 ? chain.size() : chain.get(i);
    }

    int useRight(int person, int act, int thing) {
        badPerson(person);
        badAct(act);
        badThing(thing);
        refuse(NO, !keepChain(person, act, thing, now));
        for (int l : chain) {
            lends.get(l)[6] -= lends.get(l)[6] == -1 ? 0 : 1;
        }
        return 1;
    }

    int lendOf(int l, int what) {
        bad(out(l, 0, lends.size() - 1) || out(what, 0, 7));
        return lends.get(l)[what];
    }

    // ---- 7 keys

    private final int[][] keys = new int[12][12];

    int key(int x, int y, int bits) {
        bad(out(x, 0, 11) || out(y, 0, 11) || x == y || out(bits, 0, 15));
        int was = keys[x][y];
        keys[x][y] = bits;
        return was;
    }

    private List<int[]> gains() {
        int[][] has = new int[12][];
        for (int x = 0; x < 12; x++) {
            has[x] = keys[x].clone();
        }
        List<int[]> gains = new ArrayList<>();
        int before;
        do {
            before = gains.size();
            for (int n = 0; n < 12 * 12 * 12; n++) {
                int x = n / 144;
                int y = n / 12 % 12;
                int z = n % 12;
                if ((has[x][y] & 1) != 0) {
                    get(has, x, z, has[y][z], gains);
                }
                if ((has[x][y] & 2) != 0) {
                    get(has, y, z, has[x][z], gains);
                }
            }
        } while (gains.size() > before);
        return gains;
    }

    private static void get(int[][] has, int who, int onWhom, int bits, List<int[]> gains) {
        int coming = bits & ~has[who][onWhom];
        if (coming != 0) {
            gains.add(new int[] {who, onWhom, coming});
            has[who][onWhom] |= coming;
        }
    }

    int ever(int x, int y, int bits) {
        bad(out(x, 0, 11) || out(y, 0, 11) || out(bits, 1, 15));
        int lacking = bits & ~keys[x][y];
        List<int[]> gains = gains();
        for (int i = 0; i < gains.size() && lacking != 0; i++) {
            int[] gain = gains.get(i);
            if (gain[0] == x && gain[1] == y && (lacking &= ~gain[2]) == 0) {
                return i + 1;
            }
        }
        return lacking == 0 ? 0 : NONE;
    }

    int gain(int i, int what) {
        List<int[]> gains = gains();
        if (i == -1) {
            return gains.size();
        }
        bad(out(i, 0, gains.size() - 1) || out(what, 0, 2));
        return gains.get(i)[what];
    }

    // ---- 8 flows

    private final int[] labels = new int[14];
    final List<int[]> statements = new ArrayList<>();
    private final int[] givens = new int[10];
    private int[] variables = new int[10];
    private List<List<Integer>> said = List.of(List.of(), List.of(), List.of(), List.of());
    private int stepsLeft;

    {
        Arrays.fill(labels, 255);
    }

    int label(int v, int readers) {
        bad(out(v, 0, 13) || out(readers, 0, 255));
        int was = labels[v];
        labels[v] = readers;
        return was;
    }

    private static void badVariable(int v) {
        bad(out(v, 0, 9));
    }

    private List<int[]> around(int s) {
        List<int[]> around = new ArrayList<>();
        for (int i = 0; i < s; i++) {
            int[] block = statements.get(i);
            if ((block[0] == 2 || block[0] == 5) && i + block[2] >= s) {
                around.add(new int[] {block[1], i + block[2]});
            }
        }
        return around;
    }

    int statement(int kind, int a, int b, int c) {
        bad(out(kind, 0, 5));
        badVariable(a);
        if (kind == 0 || kind == 4) {
            badVariable(b);
        }
        if (kind == 0) {
            badVariable(c);
        }
        bad(kind == 3 && out(b, 10, 13));
        bad((kind == 2 || kind == 5) && out(b, 0, 20));
        bad(kind == 4 && out(c, 0, 7));
        int s = statements.size();
        refuse(NO, (kind == 2 || kind == 5) && around(s).stream().anyMatch(block -> s + b > block[1]));
        refuse(FULL, s == 60);
        statements.add(new int[] {kind, a, b, c});
        return s;
    }

    int erase() {
        int were = statements.size();
        statements.clear();
        return were;
    }

    private boolean isTight(int s) {
        int[] statement = statements.get(s);
        List<Integer> sources = new ArrayList<>();
        around(s).forEach(block -> sources.add(block[0]));
        if (statement[0] == 0) {
            sources.add(statement[2]);
            sources.add(statement[3]);
        }
        if (statement[0] == 3) {
            sources.add(statement[1]);
        }
        int changed = statement[0] == 3 ? statement[2] : statement[1];
        if (statement[0] == 2 || statement[0] == 5) {
            return true;
        }
        for (int reader = 0; reader < 8; reader++) {
            for (int source : sources) {
                if ((labels[changed] >> reader & 1) == 1 && (labels[source] >> reader & 1) == 0) {
                    return false;
                }
            }
        }
        return statement[0] != 4 || (labels[statement[2]] >> statement[3] & 1) == 1;
    }

    int tight() {
        for (int s = 0; s < statements.size(); s++) {
            if (!isTight(s)) {
                return s;
            }
        }
        return NONE;
    }

    int lowered() {
        return (int) statements.stream().filter(statement -> statement[0] == 4).count() * 32;
    }

    int given(int v, int number) {
        badVariable(v);
        int was = givens[v];
        givens[v] = number;
        return was;
    }

    int flow(int most) {
        bad(out(most, 0, 2000));
        variables = givens.clone();
        said = List.of(new ArrayList<>(), new ArrayList<>(), new ArrayList<>(), new ArrayList<>());
        stepsLeft = most;
        runFrom(0, statements.size());
        return 1;
    }

    private void countStep() {
        refuse(0, stepsLeft == 0);
        stepsLeft--;
    }

    private void runFrom(int from, int end) {
        for (int s = from; s < end; s++) {
            countStep();
            int[] statement = statements.get(s);
            int a = statement[1];
            int b = statement[2];
            int blockEnd = Math.min(s + 1 + b, statements.size());
            if (statement[0] == 0) {
                variables[a] = variables[b] + variables[statement[3]];
            } else if (statement[0] == 1) {
                variables[a] = b;
            } else if (statement[0] == 3) {
                said.get(b - 10).add(variables[a]);
            } else if (statement[0] == 4) {
                variables[a] = variables[b];
            } else if (statement[0] == 2) {
                runFrom(s + 1, variables[a] != 0 ? blockEnd : s + 1);
                s = blockEnd - 1;
            } else {
                while (variables[a] != 0) {
                    runFrom(s + 1, blockEnd);
                    countStep();
                }
                s = blockEnd - 1;
            }
        }
    }

    int said(int channel, int i) {
        bad(out(channel, 10, 13));
        List<Integer> all = said.get(channel - 10);
        int kept = Math.min(200, all.size());
        bad(out(i, -1, kept - 1));
        return i == -1 ? kept : all.get(i);
    }

    int variable(int v) {
        badVariable(v);
        return variables[v];
    }

    // ---- 9 guard

    private static final long FIELD = (1L << 31) - 1;
    private final long[] numbers = new long[20];
    private final List<List<Long>> toldSets =
            List.of(new ArrayList<>(), new ArrayList<>(), new ArrayList<>(), new ArrayList<>());
    private final int[] circles = {0, 1, 2, 3};

    long guarded(int person, long number) {
        badPerson(person);
        long was = numbers[person];
        numbers[person] = number;
        return was;
    }

    private List<Long> toldTo(int asker, int other) {
        List<Long> sets = new ArrayList<>();
        for (int a = 0; a < 4; a++) {
            if (circles[a] == circles[asker] || circles[a] == circles[other]) {
                sets.addAll(toldSets.get(a));
            }
        }
        return sets;
    }

    /** The greatest minor of 0 and 1, 20 wide, is below this field's size, so the rank is that over fractions. */
    private static int rank(List<Long> sets) {
        List<long[]> rows = new ArrayList<>();
        for (long set : sets) {
            long[] row = new long[20];
            for (int p = 0; p < 20; p++) {
                row[p] = set >> p & 1;
            }
            for (long[] other : rows) {
                int lead = leadOf(other);
                long factor = row[lead] * BigInteger.valueOf(other[lead]).modInverse(BigInteger.valueOf(FIELD)).longValue() % FIELD;
                for (int p = 0; p < 20; p++) {
                    row[p] = Math.floorMod(row[p] - factor * other[p], FIELD);
                }
            }
            if (leadOf(row) < 20) {
                rows.add(row);
            }
        }
        return rows.size();
    }

    private static int leadOf(long[] row) {
        int lead = 0;
        while (lead < 20 && row[lead] == 0) {
            lead++;
        }
        return lead;
    }

    private static boolean tells(List<Long> sets) {
        int rank = rank(sets);
        for (int p = 0; p < 20; p++) {
            List<Long> more = new ArrayList<>(sets);
            more.add(1L << p);
            if (rank(more) == rank) {
                return true;
            }
        }
        return false;
    }

    private long total(long set) {
        long total = 0;
        for (int p = 0; p < 20; p++) {
            total += (set >> p & 1) == 1 ? numbers[p] : 0;
        }
        return total;
    }

    private static void badAsker(int asker) {
        bad(out(asker, 0, 3));
    }

    long sum(int asker, long set) {
        badAsker(asker);
        bad(set == 0 || (set & -1L << persons) != 0);
        List<Long> own = toldSets.get(asker);
        if (!own.contains(set)) {
            refuse(FULL, own.size() == 40);
            List<Long> all = toldTo(asker, asker);
            all.add(set);
            refuse(NO, tells(all));
            own.add(set);
        }
        return total(set);
    }

    int share(int asker, int other) {
        badAsker(asker);
        badAsker(other);
        bad(asker == other);
        refuse(0, circles[asker] == circles[other]);
        refuse(NO, tells(toldTo(asker, other)));
        int old = circles[other];
        for (int a = 0; a < 4; a++) {
            circles[a] = circles[a] == old ? circles[asker] : circles[a];
        }
        return 1;
    }

    int knows(int asker, int what) {
        badAsker(asker);
        bad(out(what, 0, 1));
        List<Long> all = toldTo(asker, asker);
        return what == 1 ? rank(all) : new HashSet<>(all).size();
    }

    // ---- 10 gates

    private static final class Thrown extends RuntimeException {
        private static final long serialVersionUID = 1;
        final int what;

        Thrown(int what) {
            super(null, null, false, false);
            this.what = what;
        }
    }

    private static final class Method {
        int room;
        final List<int[]> ops = new ArrayList<>();
    }

    /** A frame: the METHOD's ROOM, and the RIGHTS told by MARK (NONE if it did not begin so). */
    private final List<int[]> frames = new ArrayList<>();
    final List<Integer> rooms = new ArrayList<>();
    final List<Method> methods = new ArrayList<>();
    private int[] entered = {0, 0, 0, 0, NONE, NONE, 0, 0};
    private int opsLeft;

    private static void badRights(int rights) {
        bad(out(rights, 0, 65535));
    }

    int room(int rights) {
        badRights(rights);
        refuse(FULL, rooms.size() == 6);
        rooms.add(rights);
        return rooms.size() - 1;
    }

    int method(int room) {
        bad(out(room, 0, rooms.size() - 1));
        refuse(FULL, methods.size() == 12);
        Method method = new Method();
        method.room = room;
        methods.add(method);
        return methods.size() - 1;
    }

    int op(int method, int kind, int a, int b) {
        bad(out(method, 0, methods.size() - 1) || out(kind, 0, 4));
        bad((kind == 0 || kind == 1 || kind == 3) && out(a, 0, 11));
        if (kind == 2) {
            badRights(a);
        }
        if (kind == 1) {
            badRights(b);
        }
        List<int[]> ops = methods.get(method).ops;
        refuse(FULL, ops.size() == 12);
        ops.add(new int[] {kind, a, b});
        return ops.size() - 1;
    }

    int enter(int method, int ops) {
        bad(out(method, 0, methods.size() - 1) || out(ops, 0, 1000));
        entered = new int[] {0, 0, 0, 1, NONE, NONE, 0, 0};
        opsLeft = ops;
        frames.clear();
        try {
            runMethod(method, NONE);
            return 0;
        } catch (Thrown thrown) {
            return thrown.what;
        }
    }

    private void runMethod(int m, int marked) {
        frames.add(new int[] {methods.get(m).room, marked});
        try {
            for (int i = 0; i < methods.get(m).ops.size(); i++) {
                refuse(3, opsLeft == 0);
                opsLeft--;
                entered[0]++;
                runOp(m, i, methods.get(m).ops.get(i));
            }
            entered[2]++;
        } catch (Thrown thrown) {
            entered[2]++;
            throw thrown;
        } finally {
            frames.remove(frames.size() - 1);
        }
    }

    private void runOp(int m, int i, int[] op) {
        if (op[0] == 2) {
            need(m, i, op[1]);
        } else if (op[0] == 4) {
            entered[1] += op[1];
        } else {
            try {
                call(m, i, op);
            } catch (Thrown thrown) {
                if (op[0] != 3) {
                    throw thrown;
                }
            }
        }
    }

    private void call(int m, int i, int[] op) {
        entered[3]++;
        refuse(4, op[1] >= methods.size());
        if (frames.size() == 20) {
            throwOut(2, m, i, 0);
        }
        runMethod(op[1], op[0] == 1 ? op[2] : NONE);
    }

    private void throwOut(int what, int m, int i, int lacking) {
        entered[4] = m;
        entered[5] = i;
        entered[6] = lacking;
        entered[7]++;
        throw new Thrown(what);
    }

    private void need(int m, int i, int rights) {
        List<Integer> looked = new ArrayList<>();
        for (int f = frames.size() - 1; f >= 0; f--) {
            looked.add(rooms.get(frames.get(f)[0]));
            if (frames.get(f)[1] != NONE) {
                looked.add(frames.get(f)[1]);
                looked.add(rooms.get(frames.get(f - 1)[0]));
                break;
            }
        }
        for (int has : looked) {
            if ((rights & ~has) != 0) {
                throwOut(1, m, i, rights & ~has);
            }
        }
    }

    int entered(int what) {
        bad(out(what, 0, 7));
        return entered[what];
    }

    // ---- 11 halves

    private static final BigInteger P = BigInteger.valueOf(2147483647);

    private BigInteger tapeNumber(int at) {
        byte[] bytes = new byte[4];
        for (int i = 0; i < 4; i++) {
            bytes[i] = (byte) (int) tape.get(at + i);
        }
        return new BigInteger(1, bytes);
    }

    int half(int secret, int i) {
        bad(secret < 0 || secret == 2147483647 || out(i, 1, 1000));
        refuse(NO, tape.size() % 4 != 0 || tape.size() > 40);
        BigInteger half = BigInteger.valueOf(secret);
        for (int k = 0; k < tape.size() / 4; k++) {
            half = half.add(tapeNumber(4 * k).multiply(BigInteger.valueOf(i).pow(k + 1)));
        }
        tape.clear();
        return half.mod(P).intValue();
    }

    int joined() {
        int n = tape.size() / 8;
        refuse(NO, tape.size() % 8 != 0 || n == 0 || n > 10);
        List<BigInteger> at = new ArrayList<>();
        for (int k = 0; k < n; k++) {
            BigInteger i = tapeNumber(8 * k);
            boolean fits = i.signum() > 0 && i.compareTo(BigInteger.valueOf(1000)) <= 0 && !at.contains(i);
            refuse(NO, !fits || tapeNumber(8 * k + 4).compareTo(P) >= 0);
            at.add(i);
        }
        BigInteger secret = BigInteger.ZERO;
        for (int k = 0; k < n; k++) {
            BigInteger part = tapeNumber(8 * k + 4);
            for (BigInteger other : at) {
                if (!other.equals(at.get(k))) {
                    part = part.multiply(other).multiply(other.subtract(at.get(k)).modInverse(P)).mod(P);
                }
            }
            secret = secret.add(part);
        }
        tape.clear();
        return secret.mod(P).intValue();
    }

    // ---- 12 the log

    final List<int[]> log = new ArrayList<>();

    private static int sumOf(int[] row, int ahead) {
        int h = ahead;
        for (int k = 0; k < 6; k++) {
            h = (h ^ row[k]) * 1664525 + 1013904223;
            h ^= h >>> 15;
        }
        return h;
    }

    private int ahead(int i) {
        return i == 0 ? 1 : log.get(i - 1)[6];
    }

    private void log(int kind, int first, int second, int third, int answer) {
        if (log.size() < 300) {
            int[] row = {kind, now, first, second, third, answer, 0};
            row[6] = sumOf(row, ahead(log.size()));
            log.add(row);
        }
    }

    int logged(int i, int what) {
        if (i == -1) {
            return log.size();
        }
        bad(out(i, 0, log.size() - 1) || out(what, 0, 6));
        return log.get(i)[what];
    }

    int forge(int i, int what, int v) {
        bad(out(i, 0, log.size() - 1) || out(what, 0, 5));
        int was = log.get(i)[what];
        log.get(i)[what] = v;
        return was;
    }

    int wrong() {
        for (int i = 0; i < log.size(); i++) {
            if (log.get(i)[6] != sumOf(log.get(i), ahead(i))) {
                return i;
            }
        }
        return NONE;
    }

    int sealed(int n, int sum) {
        bad(out(n, 0, log.size()));
        int h = 1;
        for (int[] row : log.subList(0, n)) {
            h = sumOf(row, h);
        }
        return h == sum ? 1 : 0;
    }

    int could(int act, int thing, int t, int i) {
        badAct(act);
        badThing(thing);
        bad(out(t, 0, now) || i < 0);
        return personAllowed(policyAt(t), act, thing, t, i);
    }

    /** What a call answers, also where it ended early. */
    static long answer(Second x, java.lang.reflect.Method method, Object[] arguments) throws ReflectiveOperationException {
        try {
            return ((Number) method.invoke(x, arguments)).longValue();
        } catch (java.lang.reflect.InvocationTargetException e) {
            if (e.getCause() instanceof Answer) {
                return ((Answer) e.getCause()).answer;
            }
            throw e;
        }
    }

    int now() {
        return now;
    }
}
