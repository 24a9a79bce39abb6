import java.util.ArrayList;
import java.util.List;
import java.util.Random;

/** Rules, laws, programs and gates, worked out once more as the document's words go, over random ones. */
final class WordsTest {
    private static final Due DUE = new Due("WordsTest");
    private static final int NO = RightsHouse.NO, NONE = RightsHouse.NONE;

    public static void main(String[] args) {
        for (int seed = 0; seed < 300; seed++) {
            new Rules(seed).run();
            new Laws(seed).run();
            new Flows(seed).run();
            new Gates(seed).run();
        }
        DUE.end();
    }

    /** Section 3: rules without conditions, or with one that is UNKNOWN or FAILS, put together in four ways. */
    private static final class Rules {
        private static final String ACTS = "rwxdgo";
        private final Random random;
        private final String seed;
        private final RightsHouse x = Due.house(4, 3);
        private final int[][] rules;
        private final int way;
        private final boolean[][] holds = new boolean[6][6];
        private final boolean[][] under = new boolean[6][6];
        private final boolean[][] belongs = new boolean[12][12];
        private final int[] owner = new int[6];
        private final int[] depth = new int[6];
        private int rule;
        private int spoke;

        Rules(int seed) {
            random = new Random(seed);
            this.seed = "rules " + seed + ": ";
            way = random.nextInt(4);
            rules = new int[1 + random.nextInt(8)][];
        }

        void run() {
            for (int t = 1; t < 6; t++) {
                x.thing(random.nextInt(t), random.nextInt(6) < 4 ? random.nextInt(4) : NONE);
                x.cutOff(t, random.nextInt(4) == 0);
            }
            for (int i = 0; i < 5; i++) {
                x.put(random.nextInt(4), random.nextInt(3), random.nextInt(4), 4 + random.nextInt(6));
                x.put(100 + random.nextInt(3), random.nextInt(3), random.nextInt(4), 4 + random.nextInt(6));
                int act = random.nextInt(6);
                x.holds(act, (act + 1 + random.nextInt(5)) % 6, random.nextInt(3) > 0);
            }
            x.tick(5);
            read();
            StringBuilder text = new StringBuilder();
            for (int r = 0; r < rules.length; r++) {
                text.append(r == 0 ? "" : ";").append(ruleOf(r));
            }
            DUE.is(seed + text, Due.policy(x, way, text.toString()), 0);
            for (int i = 0; i < 30; i++) {
                int who = random.nextInt(4);
                int act = random.nextInt(6);
                int thing = random.nextInt(6);
                int t = random.nextInt(12);
                String told = seed + text + " by " + way + ": " + who + " " + act + " " + thing + " " + t;
                DUE.is(told, x.asked(0, who, act, thing, t), answer(who, act, thing, t));
                DUE.is(told + ", rule", x.made(0), rule);
                DUE.is(told + ", spoke", x.made(3), spoke);
            }
            sweep();
        }

        private void read() {
            for (int i = 0; i < 36; i++) {
                holds[i / 6][i % 6] = x.doesHold(i / 6, i % 6) == 1;
                under[i / 6][i % 6] = x.under(i / 6, i % 6) == 1;
            }
            for (int i = 0; i < 144; i++) {
                belongs[i / 12][i % 12] = x.belongs(i % 12 / 3, i % 3, i / 12, 5) == 1;
            }
            for (int t = 0; t < 6; t++) {
                owner[t] = x.thingOf(t, 1);
                depth[t] = x.thingOf(t, 4);
            }
        }

        /** Effect 0 no, 1 yes, 2 maybe; who -1 any, -2 own, p, 100 + g; act, 6 all; thing -1 any, t, 100 + t; condition. */
        private String ruleOf(int r) {
            int kind = random.nextInt(4);
            int who = kind == 0 ? -1 : kind == 1 ? -2 : kind == 2 ? random.nextInt(4) : 100 + random.nextInt(3);
            int thing = random.nextInt(3) == 0 ? -1 : random.nextInt(6) + 100 * random.nextInt(2);
            int act = random.nextInt(7);
            int condition = Math.max(0, random.nextInt(9) - 4);
            rules[r] = new int[] {random.nextInt(3), who, act, thing, condition};
            String conditions = "; if 1=1; if 1=2; if me.e=1; if 1/0=1";
            return new String[] {"no", "yes", "maybe"}[rules[r][0]]
                    + " " + (who == -1 ? "any" : who == -2 ? "own" : who < 100 ? "p" + who : "g" + (who - 100))
                    + " " + (act == 6 ? "all" : ACTS.substring(act, act + 1))
                    + " " + (thing < 0 ? "any" : thing < 100 ? "t" + thing : "t" + (thing - 100) + "/")
                    + conditions.split(";", -1)[condition];
        }

        private boolean fits(int[] r, int who, int act, int thing, int t) {
            boolean fitsWho = r[1] == -1 || r[1] == -2 && owner[thing] == who || r[1] == who
                    || r[1] >= 100 && belongs[t][who * 3 + r[1] - 100];
            boolean fitsAct = r[2] == 6 || (r[0] == 0 ? holds[act][r[2]] : holds[r[2]][act]);
            boolean fitsThing = r[3] == -1 || r[3] == thing || r[3] >= 100 && under[thing][r[3] - 100];
            return fitsWho && fitsAct && fitsThing;
        }

        /** The answer of a rule that SPEAKS, or NONE. */
        private int spoken(int[] r) {
            switch (r[4]) {
                case 2:
                    return NONE;
                case 3:
                    return r[0] == 1 ? NONE : r[0];
                case 4:
                    return 3;
                default:
                    return r[0];
            }
        }

        private int says(int[] r) {
            if (way == 2) {
                return r[3] < 0 ? -1 : r[3] < 100 ? 2 * depth[r[3]] + 1 : 2 * depth[r[3] - 100];
            }
            return way == 3 ? (r[1] == -1 ? 0 : r[1] >= 100 ? 1 : r[1] == -2 ? 2 : 3) : 0;
        }

        private int answer(int who, int act, int thing, int t) {
            List<Integer> speaking = new ArrayList<>();
            int most = Integer.MIN_VALUE;
            for (int r = 0; r < rules.length; r++) {
                if (fits(rules[r], who, act, thing, t) && spoken(rules[r]) != NONE) {
                    speaking.add(r);
                    most = Math.max(most, says(rules[r]));
                }
            }
            spoke = speaking.size();
            rule = NONE;
            if (way == 0) {
                rule = speaking.isEmpty() ? NONE : speaking.get(0);
                return rule == NONE ? 0 : spoken(rules[rule]);
            }
            for (int rank : new int[] {0, 3, 2, 1}) {
                for (int r : speaking) {
                    if (says(rules[r]) == most && spoken(rules[r]) == rank) {
                        rule = r;
                        return rank;
                    }
                }
            }
            return 0;
        }

        /** All requests NOW: may(), who(), decides(). */
        private void sweep() {
            int[] decided = new int[rules.length];
            int act = random.nextInt(6);
            int[] allowed = new int[6];
            int yes = 0;
            for (int i = 0; i < 4 * 6 * 6; i++) {
                int answer = answer(i / 36, i / 6 % 6, i % 6, 5);
                if (rule != NONE) {
                    decided[rule]++;
                }
                if (i / 36 == 2 && i / 6 % 6 == act && answer == 1) {
                    allowed[yes] = i % 6;
                    yes++;
                }
            }
            for (int i = 0; i < 6; i++) {
                DUE.is(seed + "may " + act + ", " + i, x.may(0, 2, act, i), i < yes ? allowed[i] : NONE);
            }
            int r = random.nextInt(rules.length);
            DUE.is(seed + "decides " + r, x.decides(0, r), decided[r]);
        }
    }

    /** Section 4: give() and breach() by laws 0, 2, 3, 4 as they stand. */
    private static final class Laws {
        private final Random random;
        private final String seed;
        private final RightsHouse x = Due.house(3, 4);
        private final List<int[]> laws = new ArrayList<>();
        private final boolean[][] in = new boolean[3][4];

        Laws(int seed) {
            random = new Random(seed);
            this.seed = "laws " + seed + ": ";
        }

        void run() {
            int[] kinds = {0, 2, 3, 4};
            for (int i = 0; i < 4; i++) {
                int kind = kinds[random.nextInt(4)];
                int g = random.nextInt(4);
                int h = kind == 2 ? random.nextInt(4) : (g + 1 + random.nextInt(3)) % 4;
                laws.add(new int[] {kind, g, h});
                DUE.is(seed + "law", x.law(kind, g, h), i);
            }
            int rows = 0;
            for (int i = 0; i < 25; i++) {
                int p = random.nextInt(3);
                int g = random.nextInt(4);
                int by = random.nextInt(3);
                if (random.nextInt(4) == 0) {
                    boolean had = in[p][g];
                    int refusing = giver(g, by);
                    in[p][g] &= refusing != NONE;
                    int taken = x.take(p, g, by);
                    DUE.is(seed + "take " + p + " " + g + " by " + by, Math.min(taken, 1), refusing != NONE ? NO : had ? 1 : 0);
                    continue;
                }
                boolean had = in[p][g];
                int broken = giver(g, by);
                in[p][g] = true;
                broken = broken != NONE ? broken : firstBroken(0);
                DUE.is(seed + "give " + p + " " + g + " by " + by, x.give(p, g, by, 9), broken == NONE ? rows : NO);
                DUE.is(seed + "broken", x.broken(), broken);
                in[p][g] = had || broken == NONE;
                rows += broken == NONE ? 1 : 0;
                int l = random.nextInt(5);
                DUE.is(seed + "breach " + l, x.breach(l), firstBroken(l));
            }
        }

        private int giver(int g, int by) {
            int first = NONE;
            for (int l = 0; l < laws.size(); l++) {
                if (laws.get(l)[0] == 4 && laws.get(l)[1] == g) {
                    if (in[by][laws.get(l)[2]]) {
                        return NONE;
                    }
                    first = first == NONE ? l : first;
                }
            }
            return first;
        }

        private int firstBroken(int from) {
            for (int l = from; l < laws.size(); l++) {
                int[] law = laws.get(l);
                int members = 0;
                for (boolean[] person : in) {
                    members += person[law[1]] ? 1 : 0;
                    if (law[0] == 0 && person[law[1]] && person[law[2]] || law[0] == 3 && person[law[1]] && !person[law[2]]) {
                        return l;
                    }
                }
                if (law[0] == 2 && members > law[2]) {
                    return l;
                }
            }
            return NONE;
        }
    }

    /** Section 8: programs run statement by statement, blocks within blocks. */
    private static final class Flows {
        private static final int SET = 0, KEEP = 1, IF = 2, SAY = 3, LOWER = 4, WHILE = 5;
        private final Random random;
        private final String seed;
        private final RightsHouse x = new RightsHouse();
        private final List<int[]> program = new ArrayList<>();
        private final int[] label = new int[14];
        private final int[] value = new int[10];
        private final List<Integer> said = new ArrayList<>();
        private int left;
        private boolean isDue;

        Flows(int seed) {
            random = new Random(seed);
            this.seed = "flows " + seed + ": ";
        }

        void run() {
            int[] given = new int[10];
            for (int v = 0; v < 14; v++) {
                label[v] = random.nextInt(3) == 0 ? 255 : 1 + random.nextInt(7);
                x.label(v, label[v]);
            }
            for (int v = 0; v < 10; v++) {
                given[v] = random.nextInt(4) - 2;
                x.given(v, given[v]);
            }
            for (int i = 0; i < 20; i++) {
                statement();
            }
            DUE.is(seed + "tight", x.tight(), loose());
            for (int i = 0; i < 5; i++) {
                int most = i == 4 ? 2000 : random.nextInt(60);
                System.arraycopy(given, 0, value, 0, 10);
                said.clear();
                left = most;
                isDue = false;
                block(0, program.size());
                DUE.is(seed + "flow " + most, x.flow(most), isDue ? 0 : 1);
                for (int v = 0; v < 10; v++) {
                    DUE.is(seed + "variable " + v + " behind " + most, x.variable(v), value[v]);
                }
                DUE.is(seed + "said behind " + most, x.said(11, -1), Math.min(said.size(), 200));
                for (int n = 0; n < Math.min(said.size(), 20); n++) {
                    DUE.is(seed + "said " + n + " behind " + most, x.said(11, n), said.get(n));
                }
            }
        }

        private void statement() {
            int kind = random.nextInt(6);
            int a = random.nextInt(10);
            int b = kind == IF || kind == WHILE ? random.nextInt(7) : kind == SAY ? 11 : random.nextInt(10);
            int c = random.nextInt(8);
            boolean reachesOut = false;
            int s = program.size();
            for (int block = 0; block < s; block++) {
                boolean isWithin = isWithin(s, block);
                reachesOut |= isWithin && (kind == IF || kind == WHILE) && s + b > block + program.get(block)[2];
            }
            DUE.is(seed + "statement", x.statement(kind, a, b, c), reachesOut ? NO : s);
            if (!reachesOut) {
                program.add(new int[] {kind, a, b, c});
            }
        }

        private boolean isWithin(int s, int block) {
            int[] outer = program.get(block);
            return (outer[0] == IF || outer[0] == WHILE) && s > block && s <= block + outer[2];
        }

        private int loose() {
            for (int s = 0; s < program.size(); s++) {
                int[] p = program.get(s);
                int readers = 255;
                for (int block = 0; block < s; block++) {
                    readers &= isWithin(s, block) ? label[program.get(block)[1]] : 255;
                }
                int sources = p[0] == SET ? label[p[2]] & label[p[3]] : p[0] == SAY ? label[p[1]] : 255;
                int changed = p[0] == IF || p[0] == WHILE ? 0 : p[0] == SAY ? label[p[2]] : label[p[1]];
                boolean mayLower = p[0] != LOWER || (label[p[2]] & 1 << p[3]) != 0;
                if ((changed & ~(readers & sources)) != 0 || !mayLower) {
                    return s;
                }
            }
            return NONE;
        }

        private boolean comes() {
            if (left == 0) {
                isDue = true;
                return false;
            }
            left--;
            return true;
        }

        private void block(int from, int to) {
            int s = from;
            while (s < to && !isDue) {
                int[] p = program.get(s);
                int next = s + 1;
                if (p[0] == IF || p[0] == WHILE) {
                    next = Math.min(s + 1 + p[2], program.size());
                }
                if (p[0] == WHILE) {
                    while (comes() && value[p[1]] != 0) {
                        block(s + 1, next);
                    }
                } else if (comes()) {
                    one(p, s, next);
                }
                s = next;
            }
        }

        private void one(int[] p, int s, int next) {
            if (p[0] == SET) {
                value[p[1]] = value[p[2]] + value[p[3]];
            } else if (p[0] == KEEP) {
                value[p[1]] = p[2];
            } else if (p[0] == LOWER) {
                value[p[1]] = value[p[2]];
            } else if (p[0] == SAY) {
                said.add(value[p[1]]);
            } else if (value[p[1]] != 0) {
                block(s + 1, next);
            }
        }
    }

    /** Section 10: methods that call one another, frames on the machine's own stack. */
    private static final class Gates {
        private static final int CALL = 0, MARK = 1, NEED = 2, TRY = 3, COUNT = 4;
        private static final int FINE = 0, REFUSED = 1, DEEP = 2, OP_DUE = 3, NO_METHOD = 4;
        private final Random random;
        private final String seed;
        private final RightsHouse x = new RightsHouse();
        private final int[] rights = new int[3];
        private final int[] room = new int[5];
        private final List<List<int[]>> methods = new ArrayList<>();
        private final List<int[]> frames = new ArrayList<>();
        private final int[] entered = new int[8];
        private int most;

        Gates(int seed) {
            random = new Random(seed);
            this.seed = "gates " + seed + ": ";
        }

        void run() {
            for (int r = 0; r < 3; r++) {
                rights[r] = random.nextInt(8) | random.nextInt(8);
                x.room(rights[r]);
            }
            for (int m = 0; m < 5; m++) {
                room[m] = random.nextInt(3);
                x.method(room[m]);
                methods.add(new ArrayList<>());
            }
            for (int i = 0; i < 18; i++) {
                int kind = random.nextInt(5);
                int a = kind == NEED ? random.nextInt(8) & random.nextInt(8) : kind == COUNT ? i + 1
                        : random.nextInt(30) == 0 ? 5 : random.nextInt(5);
                int b = random.nextInt(8) | random.nextInt(8);
                int m = random.nextInt(5);
                DUE.is(seed + "op", x.op(m, kind, a, b), methods.get(m).size());
                methods.get(m).add(new int[] {kind, a, b});
            }
            for (int m = 0; m < 5; m++) {
                most = random.nextBoolean() ? 1000 : random.nextInt(40);
                java.util.Arrays.fill(entered, 0);
                entered[4] = NONE;
                entered[5] = NONE;
                frames.clear();
                DUE.is(seed + "enter " + m + " " + most, x.enter(m, most), call(m, CALL, 0));
                for (int what = 0; what < 8; what++) {
                    DUE.is(seed + "entered " + what + " of " + m + " " + most, x.entered(what), entered[what]);
                }
            }
        }

        private int call(int m, int kind, int narrowed) {
            entered[3]++;
            if (m >= methods.size()) {
                return NO_METHOD;
            }
            if (frames.size() == 20) {
                return DEEP;
            }
            frames.add(new int[] {m, kind, narrowed});
            int outcome = ops(m);
            frames.remove(frames.size() - 1);
            entered[2] += outcome == OP_DUE || outcome == NO_METHOD ? 0 : 1;
            return outcome;
        }

        private int ops(int m) {
            for (int i = 0; i < methods.get(m).size(); i++) {
                if (entered[0] == most) {
                    return OP_DUE;
                }
                entered[0]++;
                int[] op = methods.get(m).get(i);
                int outcome = FINE;
                if (op[0] == COUNT) {
                    entered[1] += op[1];
                } else if (op[0] == NEED) {
                    int lacking = lacking(op[1]);
                    outcome = lacking == 0 ? FINE : thrown(REFUSED, m, i, lacking);
                } else {
                    boolean isTooDeep = frames.size() == 20 && op[1] < methods.size();
                    outcome = call(op[1], op[0], op[2]);
                    if (isTooDeep) {
                        thrown(DEEP, m, i, 0);
                    }
                    boolean isThrown = outcome == REFUSED || outcome == DEEP;
                    outcome = isThrown && op[0] == TRY ? FINE : outcome;
                }
                if (outcome != FINE) {
                    return outcome;
                }
            }
            return FINE;
        }

        private int thrown(int what, int m, int i, int lacking) {
            entered[4] = m;
            entered[5] = i;
            entered[6] = lacking;
            entered[7]++;
            return what;
        }

        private int lacking(int needed) {
            List<Integer> asked = new ArrayList<>();
            for (int f = frames.size() - 1; f >= 0; f--) {
                asked.add(rights[room[frames.get(f)[0]]]);
                if (frames.get(f)[1] == MARK) {
                    asked.add(frames.get(f)[2]);
                    asked.add(rights[room[frames.get(f - 1)[0]]]);
                    break;
                }
            }
            for (int has : asked) {
                if ((needed & ~has) != 0) {
                    return needed & ~has;
                }
            }
            return 0;
        }
    }
}
