import java.lang.reflect.InvocationTargetException;
import java.lang.reflect.Method;
import java.util.ArrayList;
import java.util.Comparator;
import java.util.List;
import java.util.Random;

/**
 * All promises: for any arguments in any state no call throws, like calls answer alike, what is BAD changes nothing, and
 * what is refused otherwise or FAILS nothing but what the document tells.
 */
final class RandomCallsTest {
    private static final Due DUE = new Due("RandomCallsTest");
    private static final long[] EDGES = {
        Integer.MIN_VALUE, Integer.MAX_VALUE, Long.MIN_VALUE, Long.MAX_VALUE, -5, -4, -3, -2, -1, 20, 21, 40, 65535, 65536,
        1000000000, 1000000001, 2147483646L, 0x7ff8000000000000L, 200, 300, 1200, 12, 13, 14, 16, 19};
    /** With those that prepare a house and feed it texts a run stays within 512 calls. */
    private static final int PROMISED = 300;
    private static final String[] TEXTS = {
        "yes any r any", "no g0 w t0/ if me.a > 1 must 2; maybe own all any if known it.b", "yes p0 o t1 if 1 in me.c or age < 2",
        "maybe any all any if (me.a + 2.5) * it.a[1] >= size me.b; yes g1 r any", "yes any r any if 1 / me.a = 1", "yes any r any if (",
        "yes g0 r any; no p1 o t2 if now % 3 = 0", "yes any !", "((((", "no any all any if not (1.5 < me.b and me.d = it.e)"};

    public static void main(String[] args) throws Exception {
        List<Method> methods = new ArrayList<>();
        for (Method method : RightsHouse.class.getDeclaredMethods()) {
            if (java.lang.reflect.Modifier.isPublic(method.getModifiers())) {
                methods.add(method);
            }
        }
        methods.sort(Comparator.comparing(Method::getName));
        DUE.is("public methods", methods.size(), 84);
        for (int seed = 0; seed < 400; seed++) {
            run(methods, seed);
        }
        DUE.end();
    }

    private static void run(List<Method> methods, int seed) throws Exception {
        Random random = new Random(seed);
        RightsHouse all = new RightsHouse();
        RightsHouse twin = new RightsHouse();
        RightsHouse withoutBad = new RightsHouse();
        Unrefused unrefused = new Unrefused();
        // Some runs go far beyond the 512 calls: what they answer there is free, but no call may throw.
        int calls = seed % 8 == 0 ? 4000 : PROMISED;
        prepare(all, seed);
        prepare(twin, seed);
        prepare(withoutBad, seed);
        prepare(unrefused.house, seed);
        for (int i = 0; i < calls; i++) {
            if (random.nextInt(20) == 0) {
                String text = TEXTS[random.nextInt(TEXTS.length)];
                Due.text(all, text);
                Due.text(twin, text);
                Due.text(withoutBad, text);
                Due.text(unrefused.house, text);
            }
            Method method = methods.get(random.nextInt(methods.size()));
            Object[] arguments = arguments(random, method);
            String told = "seed " + seed + ", call " + i + " " + method.getName() + java.util.Arrays.toString(arguments);
            long answer = answer(told, all, method, arguments);
            DUE.is(told, answer(told, twin, method, arguments), answer);
            if (i >= PROMISED) {
                continue;
            }
            if (answer != RightsHouse.BAD || mayBeMinusOne(method.getName())) {
                DUE.is(told + " without what is BAD", answer(told, withoutBad, method, arguments), answer);
            }
            unrefused.call(told, method, arguments, answer);
        }
    }

    /** Whether a call that changes something may answer any number, which then is no refusal. */
    private static boolean mayBeMinusOne(String name) {
        return name.equals("given") || name.equals("guarded") || name.equals("forge") || name.equals("sum");
    }

    /** A house to which no call is made that another one refused, and which must answer the others as that one does. */
    private static final class Unrefused {
        private final RightsHouse house = new RightsHouse();
        /** Whether the other one was refused what broken(), chain() tell of. */
        private boolean isBrokenOther;
        private boolean isChainOther;

        private void call(String told, Method method, Object[] arguments, long answer) throws Exception {
            String name = method.getName();
            boolean isRefused = answer >= RightsHouse.FULL && answer <= RightsHouse.BAD || answer <= -10;
            if (isRefused && !mayBeMinusOne(name)) {
                note(name, answer);
                return;
            }
            long own = answer(told, house, method, arguments);
            isBrokenOther &= !name.equals("give") && !name.equals("switchOn");
            isChainOther &= !name.equals("stands") && !name.equals("useRight");
            if (name.equals("broken") && isBrokenOther || name.equals("chain") && isChainOther) {
                return;
            }
            DUE.is(told + " without what was refused", own, answer);
        }

        /** What a refusal changes all the same, as the document tells. */
        private void note(String name, long answer) {
            isBrokenOther |= answer != RightsHouse.BAD && (name.equals("give") || name.equals("switchOn"));
            isChainOther |= answer != RightsHouse.BAD && name.equals("useRight");
            if (name.equals("policy") && answer <= -10) {
                house.cut(0);
            }
        }
    }

    private static void prepare(RightsHouse x, int seed) {
        if (seed % 2 == 0) {
            Twins.furnish(x);
            return;
        }
        for (int i = 0; i < 3; i++) {
            x.person();
            x.group();
            x.thing(0, i);
            x.room(3 * i);
            x.method(i);
            x.work();
            x.step(0, i);
        }
    }

    private static Object[] arguments(Random random, Method method) {
        Class<?>[] types = method.getParameterTypes();
        Object[] arguments = new Object[types.length];
        for (int i = 0; i < types.length; i++) {
            long v = random.nextInt(6);
            int way = random.nextInt(30);
            if (way == 0) {
                v = EDGES[random.nextInt(EDGES.length)];
            } else if (way < 4) {
                v = 100 + random.nextInt(4);
            } else if (way < 8) {
                v = random.nextInt(60);
            }
            arguments[i] = types[i] == boolean.class ? (Object) random.nextBoolean()
                    : types[i] == long.class ? (Object) v : (Object) (int) v;
        }
        return arguments;
    }

    private static long answer(String told, RightsHouse x, Method method, Object[] arguments) throws Exception {
        try {
            return ((Number) method.invoke(x, arguments)).longValue();
        } catch (InvocationTargetException e) {
            DUE.is(told + " throws " + e.getCause(), 1, 0);
            return 0;
        }
    }
}
