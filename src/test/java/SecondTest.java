import java.lang.reflect.Method;
import java.lang.reflect.Modifier;
import java.util.Arrays;
import java.util.HashMap;
import java.util.Map;
import java.util.Random;

/** All promises: each answer of random runs of 512 calls, beside the document worked out a second time. */
final class SecondTest {
    private static final Due DUE = new Due("SecondTest");
    private static final int CALLS = 512;
    /**
     * The calls by parts, each with what its arguments are: lower bounds and upper ones, or one of p PERSON, g GROUP,
     * m MEMBER, b BEARER, t THING, o owner, T moment, U moment ahead, R ROW, P POLICY, r rule, l LAW, s SESSION,
     * w WORK, L LEND, M METHOD, x ROOM, q set, k LABEL, v any number, z a moment not above NOW, ? whether, G ROW of the LOG.
     */
    private static final String[] PARTS = {
        "person;group;put m g T U;put m g 0-0 U;back R;belongs p g T T;rowOf R 0-5;tick 0-9;feed 1-8 v;cut 0-9",
        "feature b 0-7 0-3 0-20;feature b 0-2 1-3 1-4;item b 0-2 0-3 v;item b 0-7 0-20 v;itemOf b 0-2 1-3 0-3;copy b 0-2 0-3 b 0-2 0-3 0-3",
        "thing t o;move t t;cutOff t ?;drop t;thingOf t 0-4;under t t;holds 0-5 0-5 ?;doesHold 0-5 0-5;tick 0-3",
        "policy 0-3;rules P;inForce P;ask p 0-5 t;ask p 0-5 t;asked P p 0-5 t T;made 0-3;may P p 0-5 0-3;who P 0-5 t 0-2;could 0-5 t z 0-2;"
                + "askIn s 0-5 t;put m g 0-0 U;item b 0-2 0-3 v",
        "compare P P;compared 0-5;decides P r;policy 0-3;thing t o;put m g 0-0 U",
        "law 0-4 g g;law 2-2 g 0-3;give p g p U;give p g p U;take p g p;broken;breach l;session p;switchOn s g;switchOn s g;switchOff s g;askIn s 0-5 t",
        "work;step w g;step w g;tie w 0-1 0-4 0-4;tie w 2-2 1-3 v;fill w 1-60;fill w 1-20000;filled w 0-7;next w 0-4 p 1-30;perform w 0-4 p 1-900;"
                + "needed w p 1-300;tries;put m g 0-0 U",
        "lend p p 0-5 t U 0-3 0-3;lend p p 5-5 t U 3-20 -1--1;lend p p 0-5 t U 0-3 -1-2;lend p p 5-5 t U 1-5 1-9;endLend L p;stands p 0-5 t T;chain 0-3;chain -1--1;useRight p 0-5 t;lendOf L 0-7",
        "key 0-11 0-11 0-15;key 0-5 0-5 0-3;ever 0-11 0-11 1-15;gain 0-20 0-2;gain -1-0 0-9",
        "label 0-13 0-255;label 0-13 k;statement 0-1 0-4 0-4 0-4;statement 2-2 0-4 0-5 v;statement 5-5 0-4 0-5 v;statement 3-3 0-4 10-13 v;"
                + "statement 4-4 0-4 0-4 0-7;erase;tight;lowered;given 0-4 v;given 0-4 0-1;flow 0-40;flow 0-2000;said 10-13 0-9;said 10-13 -1--1;variable 0-9",
        "guarded p v;sum 0-3 q;sum 0-3 q;share 0-3 0-3;knows 0-3 0-1",
        "room 0-65535;room 0-7;method x;op M 0-0 0-11 v;op M 1-1 0-3 0-7;op M 2-2 0-7 v;op M 3-3 0-3 v;op M 4-4 v v;enter M 0-40;enter M 0-1000;entered 0-7",
        "half v 1-1000;half 0-2147483646 1-9;joined;joined;feed 1-8 v;feed 4-4 v",
        "logged G 0-6;logged -1--1 v;forge G 0-5 v;wrong;sealed G v;inForce P;give p g p U;ask p 0-5 t;could 0-5 t z 0-2",
    };
    private static final long[] EDGES = {Integer.MIN_VALUE, Integer.MAX_VALUE, -5, -4, -3, -2, -1, 0, 1, 7, 8, 12, 13, 14, 16, 20, 21, 24, 25,
        40, 60, 99, 100, 116, 140, 200, 255, 256, 300, 1000, 1001, 1200, 2000, 2001, 20000, 20001, 65535, 65536, 1000000, 1000001,
        1000000000, 1000000001, 2147483646};
    private static final long[] NUMBERS = {0, 1, -1, 2, 3, Long.MIN_VALUE, Long.MAX_VALUE, Integer.MIN_VALUE, Integer.MAX_VALUE,
        0x7ff8000000000000L, 0x7ff0000000000000L, 0xfff0000000000000L, 0x8000000000000000L, 0x3ff8000000000000L, 0x4004000000000000L,
        0x7ff0000000000001L, 0xffffffffffffffffL, 1L << 52};

    private static final Map<String, Method> PROGRAM = new HashMap<>();
    private static final Map<String, Method> PLAIN = new HashMap<>();

    private final Random random;
    private final int seed;
    private final RightsHouse house = new RightsHouse();
    private final Second second = new Second();
    private int calls;

    private SecondTest(int seed) {
        this.seed = seed;
        random = new Random(seed);
    }

    public static void main(String[] args) throws Exception {
        for (Method method : RightsHouse.class.getDeclaredMethods()) {
            if (Modifier.isPublic(method.getModifiers())) {
                PROGRAM.put(method.getName(), method);
            }
        }
        for (Method method : Second.class.getDeclaredMethods()) {
            boolean isLike = PROGRAM.containsKey(method.getName()) && !Modifier.isPrivate(method.getModifiers())
                    && Arrays.equals(method.getParameterTypes(), PROGRAM.get(method.getName()).getParameterTypes());
            if (isLike) {
                PLAIN.put(method.getName(), method);
            }
        }
        DUE.is("calls that are worked out a second time", PLAIN.size(), 84);
        int runs = args.length > 0 ? Integer.parseInt(args[0]) : 400;
        for (int seed = 0; seed < runs; seed++) {
            new SecondTest(seed).run();
        }
        DUE.end();
    }

    private void run() throws Exception {
        String[] all = PARTS.clone();
        java.util.Collections.shuffle(Arrays.asList(all), random);
        int parts = 1 + random.nextInt(4);
        furnish();
        while (calls < CALLS) {
            String part = random.nextInt(12) == 0 ? PARTS[0] : all[random.nextInt(parts)];
            String[] choices = part.split(";");
            String[] words = choices[random.nextInt(choices.length)].split(" ");
            prepareTape(words[0]);
            Class<?>[] types = PROGRAM.get(words[0]).getParameterTypes();
            Object[] arguments = new Object[types.length];
            for (int i = 0; i < types.length; i++) {
                boolean isAny = random.nextInt(60) == 0;
                long v = isAny ? EDGES[random.nextInt(EDGES.length)] : argument(words[i + 1]);
                arguments[i] = types[i] == boolean.class ? (Object) (v != 0) : types[i] == long.class ? (Object) v : (Object) (int) v;
            }
            if (words[0].equals("lend") && random.nextInt(4) > 0) {
                lendOn(arguments);
            }
            call(words[0], arguments);
        }
    }

    /** Most lends by anybody are refused, so most here are of what somebody has, lent or owned. */
    private void lendOn(Object[] arguments) {
        if (second.lends.isEmpty() || random.nextInt(3) == 0) {
            int thing = below(second.things.size());
            arguments[0] = second.thingOf(thing, 1);
            arguments[3] = thing;
            return;
        }
        int l = below(second.lends.size());
        arguments[0] = second.lendOf(l, 1);
        arguments[2] = second.lendOf(l, 2);
        arguments[3] = second.lendOf(l, 3);
        arguments[5] = second.lendOf(l, 5) - 1;
    }

    private void call(String name, Object... arguments) throws Exception {
        if (calls >= CALLS) {
            return;
        }
        calls++;
        long got = ((Number) PROGRAM.get(name).invoke(house, arguments)).longValue();
        long want = Second.answer(second, PLAIN.get(name), arguments);
        DUE.is("seed " + seed + ", call " + calls + " " + name + Arrays.toString(arguments), got, want);
    }

    private void furnish() throws Exception {
        int persons = 1 + random.nextInt(random.nextInt(4) == 0 ? 20 : 6);
        int groups = 1 + random.nextInt(5);
        for (int i = 0; i < persons; i++) {
            call("person");
        }
        for (int i = 0; i < groups; i++) {
            call("group");
        }
        for (int i = random.nextInt(6); i > 0; i--) {
            call("thing", below(second.things.size()), (int) argument("o"));
            call("put", (int) argument("m"), (int) argument("g"), random.nextInt(3), 3 + random.nextInt(90));
            call("feature", (int) argument("b"), random.nextInt(3), 1 + random.nextInt(3), random.nextInt(5));
        }
    }

    private int below(int count) {
        return count <= 0 ? 0 : random.nextInt(count);
    }

    private long argument(String kind) {
        int dash = kind.indexOf('-', 1);
        if (dash > 0) {
            long from = Long.parseLong(kind.substring(0, dash));
            long to = Long.parseLong(kind.substring(dash + 1));
            return from + (long) (random.nextDouble() * (to - from + 1));
        }
        switch (kind.charAt(0)) {
            case 'p':
                return below(second.persons);
            case 'g':
                return below(second.groups);
            case 'm':
                return random.nextBoolean() ? below(second.persons) : 100 + below(second.groups);
            case 'b':
                return random.nextBoolean() ? below(second.persons) : 100 + below(second.things.size());
            case 't':
                return below(second.things.size());
            case 'o':
                return random.nextInt(4) == 0 ? RightsHouse.NONE : below(second.persons);
            case 'T':
                return Math.max(0, second.now() + random.nextInt(30) - 15);
            case 'U':
                return second.now() + 1 + random.nextInt(60);
            case 'z':
                return below(second.now() + 1);
            case '?':
                return random.nextInt(2);
            case 'k':
                return new int[] {255, 254, 127, 3, 1, 0}[random.nextInt(6)];
            case 'q':
                return 1 + (random.nextLong() >>> 1) % Math.max(1, (1L << second.persons) - 1);
            case 'v':
                return random.nextInt(3) == 0 ? random.nextLong() : NUMBERS[random.nextInt(NUMBERS.length)];
            default:
                return below(countOf(kind.charAt(0)));
        }
    }

    private int countOf(char kind) {
        switch (kind) {
            case 'R':
                return second.rows.size();
            case 'P':
                return second.policies.size();
            case 'r':
                return 4;
            case 'l':
                return second.laws.size() + 1;
            case 's':
                return second.sessions.size();
            case 'w':
                return second.works.size();
            case 'L':
                return second.lends.size();
            case 'M':
                return second.methods.size();
            case 'x':
                return second.rooms.size();
            default:
                return second.log.size();
        }
    }

    private void prepareTape(String name) throws Exception {
        if (name.equals("policy") && random.nextInt(30) > 0) {
            call("cut", 0);
            feedAll(text());
        } else if (name.equals("half") || name.equals("joined")) {
            call("cut", 0);
            for (int n = random.nextInt(4); n > 0; n--) {
                call("feed", 8, (long) (1 + random.nextInt(1002)) << 32 | random.nextInt() & 0xffffffffL >>> random.nextInt(2));
            }
        }
    }

    private void feedAll(String text) throws Exception {
        for (int i = 0; i < text.length(); i += 8) {
            int n = Math.min(8, text.length() - i);
            long w = 0;
            for (int k = 0; k < n; k++) {
                w = w << 8 | text.charAt(i + k) & 255;
            }
            call("feed", n, w);
        }
    }

    // ---- texts

    private String pick(String words) {
        String[] all = words.split(" ");
        return all[random.nextInt(all.length)];
    }

    private String text() {
        StringBuilder text = new StringBuilder();
        for (int n = 1 + random.nextInt(4); n > 0; n--) {
            text.append(pick("yes yes yes no maybe")).append(' ').append(pick("any any any own p0 p1 g0 g0 g1 g2")).append(' ')
                    .append(pick("r w x d g o all all all")).append(' ').append(pick("any any t0/ t0 t1 t1/ t2 t2/ t3/"));
            if (random.nextInt(5) > 1) {
                text.append(" if ").append(condition(2));
            }
            if (random.nextInt(4) == 0) {
                text.append(" must ").append(1 + random.nextInt(9));
            }
            text.append(n > 1 ? ";" : "");
        }
        if (random.nextInt(12) == 0) {
            int place = random.nextInt(text.length());
            text.setCharAt(place, "(.;9a) <-[!".charAt(random.nextInt(11)));
        }
        return text.toString();
    }

    private String condition(int deep) {
        switch (random.nextInt(deep > 0 ? 9 : 4)) {
            case 0:
                return "known " + feature();
            case 1:
                return sum(deep) + " in " + feature();
            case 4:
                return "not " + condition(deep - 1);
            case 5:
                return condition(deep - 1) + " or " + condition(deep - 1);
            case 6:
                return condition(deep - 1) + " and " + condition(deep - 1);
            case 7:
                return "(" + condition(deep - 1) + ")";
            default:
                return sum(deep) + pick("< <= = <> >= >") + sum(deep);
        }
    }

    private String feature() {
        return pick("me it") + "." + pick("a b c a b c h");
    }

    private String sum(int deep) {
        switch (random.nextInt(deep > 0 ? 12 : 6)) {
            case 0:
                return pick("0 1 2 3 2.5 0.1 999999999 1.0");
            case 1:
                return pick("now age");
            case 2:
                return "size " + feature();
            case 6:
                return "-" + sum(deep - 1);
            case 7:
                return "(" + sum(deep - 1) + ")";
            case 8:
                return feature() + "[" + sum(deep - 1) + "]";
            case 9:
            case 10:
            case 11:
                return sum(deep - 1) + pick("+ - * / %") + sum(deep - 1);
            default:
                return feature();
        }
    }
}
