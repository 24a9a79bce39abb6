/** Promises 23 to 33: policy, rules, inForce, ask, asked, made, may, who, compare, compared, decides. */
final class RulesTest {
    private static final Due DUE = new Due("RulesTest");
    private static final int BAD = RightsHouse.BAD, NO = RightsHouse.NO, FULL = RightsHouse.FULL, NONE = RightsHouse.NONE;
    private static final int R = 0, W = 1, X = 2, D = 3, O = 5;

    public static void main(String[] args) {
        faults();
        deepFaults();
        manyRules();
        longTexts();
        greatNumbers();
        policies();
        inForce();
        requests();
        ways();
        unknowns();
        failures();
        wholes();
        latestMade();
        askedNow();
        deepest();
        mayAndWho();
        compares();
        decides();
        DUE.end();
    }

    /** Persons 0 to 2, groups 0 and 1, things 1 (of 0, in 0), 2 (of 1, in 1), 3 (GONE); 0 is in group 0, that in 1. */
    private static RightsHouse house() {
        RightsHouse x = Due.house(3, 2);
        x.thing(0, 0);
        x.thing(1, 1);
        x.thing(0, 0);
        x.drop(3);
        x.put(0, 0, 0, 100);
        x.put(100, 1, 10, 50);
        return x;
    }

    /** The place of ! is the fault's; a text without it is none. */
    private static void fault(String marked) {
        int place = marked.indexOf('!');
        String text = place < 0 ? marked : marked.substring(0, place) + marked.substring(place + 1);
        RightsHouse x = house();
        DUE.is("policy of '" + marked + "'", Due.policy(x, 0, text), place < 0 ? 0 : -10 - place);
        DUE.is("THE TAPE behind '" + marked + "'", x.cut(0), 0);
    }

    private static void condition(String marked) {
        fault("yes any all any if " + marked);
    }

    private static void faults() {
        fault("!");
        fault("  \n !");
        fault("yes any r any");
        fault("\nyes\nany\nr any ");
        fault("yes any r any;!");
        fault("yes any r any ; !");
        fault("yes any r any; no own all t0/ ; maybe p2 o t2");
        fault("!Yes any r any");
        fault("!yess any r any");
        fault("!xes any r any");
        fault("yes !bny r any");
        fault("yes any !bll any");
        fault("yes any r any !of 1 = 1");
        fault("yes any r any !rust 1");
        fault("!any r any");
        fault("!1 any r any");
        fault("!; yes any r any");
        fault("yes !all r any");
        fault("yes p2 r any");
        fault("yes !p3 r any");
        fault("yes p002 r any");
        fault("yes !p r any");
        fault("yes p000000002 r any");
        fault("yes !p0000000002 r any");
        fault("yes !p2x r any");
        fault("yes !p 2 r any");
        fault("yes g1 r any");
        fault("yes !g2 r any");
        fault("yes !t1 r any");
        fault("yes !own1 r any");
        fault("yes own !any any");
        fault("yes own !y any");
        fault("yes own !rw any");
        fault("yes own g any");
        fault("yes own g !g1");
        fault("yes any r t2");
        fault("yes any r t2/");
        fault("yes any r t2 /");
        fault("yes any r any !/");
        fault("yes any r t2/ !/");
        fault("yes any r !t3");
        fault("yes any r !t4");
        fault("yes any r !own");
        fault("yes any r any !yes");
        fault("yes any r any !and");
        fault("yes any r any must 1");
        fault("yes any r any must 999999999");
        fault("yes any r any must 0001");
        fault("yes any r any must !0");
        fault("yes any r any must !1.0");
        fault("yes any r any must !1000000000");
        fault("yes any r any must !- 1");
        fault("yes any r any must !");
        fault("yes any r any must 1 !if 1 = 1");
        fault("yes any r any must 1 !must 2");
        fault("yes any r any if 1 = 1 must 2; no any r any");
        fault("yes any r any !$");
        fault("yes any!\tr any");
        fault("yes any r any !\u00e9");
        fault("yes any r !any2 $");
        conditionFaults();
    }

    private static void conditionFaults() {
        condition("!");
        condition("1 !");
        condition("1 = !");
        condition("1 = 1 !=");
        condition("1 <=!");
        condition("1 >=!");
        condition("1 <>!");
        condition("1 <!");
        condition("1 = 1 !1");
        condition("1 = 1 !)");
        condition("1 = 1 and !");
        condition("1 = 1 or !or");
        condition("not not 1 <> 1");
        condition("not !");
        condition("(1 = 1 or 2 <= 3) and not (1 >= 2)");
        condition("1 !and 1 = 1");
        condition("1<2 and 1<=2 and 1=2 and 1<>2 and 1>=2 and 1>2");
        condition("1 < != 2");
        condition("1 > != 2");
        condition("1 = !< 2");
        condition("1 <> !> 2");
        condition("1 <= !> 2");
        condition("1 + 2 * 3 - 4 / 5 % 6 = -7");
        condition("1 + !+ 2 = 3");
        condition("1 - - - 2 = 3");
        condition("now = age");
        condition("!nower = 1");
        condition("!row = 1");
        condition("!bize me.a = 1");
        condition("!be.a = 1");
        condition("1 !on me.a");
        condition("1 = 1 !end 1 = 1");
        condition("1 = 1 !now");
        condition("1=1 !if");
        condition("12345678.123456 = 123456789.1");
        condition("!1234567890 = 1");
        condition("!1234567890.1 = 1");
        condition("!1.1234567 = 1");
        condition("1!. = 1");
        condition("1 !.5 = 1");
        condition("1.5!.5 = 1");
        condition("1!a = 1");
        condition("!.5 = 1");
        condition("1 = 1!a");
        condition("me.a = it.h");
        condition("me . a = it . h");
        condition("me.!i = 1");
        condition("me.!a1 = 1");
        condition("me.!aa = 1");
        condition("me.!1 = 1");
        condition("me != 1");
        condition("!you.a = 1");
        condition("me.a[1] = it.b[me.c[2]] + 1");
        condition("me.a[!] = 1");
        condition("me.a[1 != 1] = 1");
        condition("me.a[1!) = 1");
        condition("me.a[1]![2] = 1");
        condition("size me.a = 1");
        condition("size me.a![1] = 1");
        condition("size !1 = 1");
        condition("known me.a");
        condition("known me.a![1]");
        condition("known me.a != 1");
        condition("known !(me.a)");
        condition("known !1");
        condition("not known it.b and 1 in me.a");
        condition("1 in !2");
        condition("1 in me.a![0]");
        condition("1 + 2 in me.a");
        condition("1 = 2 !in me.a");
        condition("(1) = 1");
        condition("((1)) = 1");
        condition("((1) = 1)");
        condition("(1 = 1) != 1");
        condition("((1) = 1) != 1");
        condition("(1 + 2) * 3 = (4)");
        condition("(1 + 2) !and 1 = 1");
        condition("(1 + 2 = 3 !");
        condition("(1 + 2 !");
        condition("(1 + 2 !3) = 1");
        condition("(1 + 2 = !)");
        condition("(!) = 1");
        condition("(1 = 1 and !)");
        condition("(1 = 1 + 1)");
        condition("(1 in me.a)");
        condition("(1 in me.a !+ 1)");
        condition("(me.a) in it.a");
        condition("(known me.a) !in it.a");
        condition("(not 1 = 1)");
        condition("1 = (!not 1 = 1)");
        condition("1 = (1 != 1)");
        condition("1 = (1 !");
        condition("((1 = 1) and (2) !or 1)");
        condition("(1 = 1) !(2 = 2)");
        condition("(1 !$ 1) = 1");
        condition("(!1234567890) = 1");
        condition("1 = 1 or 1 = 1 and 1 = 1 or not 1 = 1");
    }

    private static String many(String part, int n) {
        return part.repeat(n);
    }

    private static void deepFaults() {
        condition(many("(", 20) + "1 = 1" + many(")", 20));
        condition(many("(", 20) + "!(1 = 1" + many(")", 21));
        condition(many("(", 20) + "1" + many(")", 20) + " = 1");
        condition(many("(", 20) + "!(1" + many(")", 21) + " = 1");
        condition("1 = " + many("(", 20) + "1" + many(")", 20));
        condition("1 = " + many("(", 20) + "!(1" + many(")", 21));
        condition("1 = " + many("- ", 20) + "1");
        condition("1 = " + many("- ", 20) + "!- 1");
        condition(many("not ", 20) + "1 = 1");
        condition(many("not ", 20) + "!not 1 = 1");
        condition("me.a" + many("[me.a", 20) + many("]", 20) + " = 1");
        condition("me.a" + many("[me.a", 20) + "![me.a" + many("]", 21) + " = 1");
        condition(many("(not ", 10) + "1 = 1" + many(")", 10));
        condition(many("(not ", 10) + "!-1 = 1" + many(")", 10));
        condition(many("not ", 19) + "1 = -1 and " + many("not ", 20) + "1 = 1");
        condition(many("not ", 20) + "1 = !(1)");
        condition(many("not ", 20) + "!(1) = 1");
        condition("- 1 = 1 and - - 1 - - 1 = " + many("-", 20) + "1 - " + many("-", 20) + "1");
    }

    private static void manyRules() {
        RightsHouse x = house();
        String thirty = many("yes any r any;", 29) + "no any r any";
        DUE.is("thirty rules", Due.policy(x, 0, thirty), 0);
        DUE.is("rules", x.rules(0), 30);
        DUE.is("31 rules", Due.policy(x, 0, thirty + "; yes any r any"), -10 - thirty.length() - 2);
        DUE.is("thirty and ;", Due.policy(x, 0, thirty + "; "), -10 - thirty.length() - 2);
        DUE.is("31 rules, no word", Due.policy(x, 0, thirty + "; 5"), -10 - thirty.length() - 2);
        DUE.is("a fault changes nothing", x.rules(1), BAD);
    }

    private static void longTexts() {
        RightsHouse x = house();
        String longest = "yes any r any if 1" + many("+1", 588) + "=589 ";
        DUE.is("its length", longest.length(), 1199);
        DUE.is("a text of 1199 bytes", Due.policy(x, 0, longest), 0);
        DUE.is("its answer", x.asked(0, 0, R, 0, 0), 1);
        Due.text(x, longest.trim() + "1 ");
        DUE.is("its number's last figure another one", x.cut(1200), 0);
        DUE.is("a text of 1200 bytes", x.policy(0), 1);
        DUE.is("its answer is no", x.asked(1, 0, R, 0, 0), 0);
        RightsHouse y = house();
        DUE.is("1200 signs", Due.policy(y, 0, many("(", 1200)), -10);
        String signs = "yes any r any if 1=1" + many(";", 1180);
        DUE.is("1180 signs", Due.policy(y, 0, signs), -10 - 21);
        String ors = "yes any r any if 1=2" + many("or 1=2", 190) + " or 1=1";
        DUE.is("or, many times", y.asked(Due.policy(y, 0, ors), 0, R, 0, 0), 1);
    }

    private static void greatNumbers() {
        RightsHouse x = Due.house(20, 16);
        for (int i = 1; i < 40; i++) {
            x.thing(0, NONE);
        }
        x.put(7, 12, 0, 9);
        int p = Due.policy(x, 0, "yes p12 r t31; maybe g12 r t13/");
        DUE.is("p12, t31", x.asked(p, 12, R, 31, 0), 1);
        DUE.is("g12, t13/", x.asked(p, 7, R, 13, 0), 2);
        DUE.is("nobody else", x.who(p, R, 31, 1), NONE);
        DUE.is("p20", Due.policy(x, 0, "yes p20 r any"), -14);
        DUE.is("g16", Due.policy(x, 0, "yes g16 r any"), -14);
        DUE.is("t40", Due.policy(x, 0, "yes any r t40"), -20);
        String exact = "yes any r any if 1" + many("+1", 588) + "=589";
        DUE.is("its length", exact.length(), 1198);
        Due.text(x, "  " + exact);
        DUE.is("a text of 1200 bytes up to its last", x.cut(1200), 0);
        DUE.is("its number", x.policy(0), 1);
        DUE.is("its answer", x.asked(1, 0, R, 0, 0), 1);
        Due.text(x, "   " + exact.substring(0, 1194) + "<=5");
        DUE.is("another text of 1200 bytes", x.asked(x.policy(0), 0, R, 0, 0), 0);
    }

    private static void policies() {
        RightsHouse x = house();
        DUE.is("rules of none", x.rules(0), BAD);
        Due.text(x, "yes any r any");
        DUE.is("way 4", x.policy(4), BAD);
        DUE.is("way -1", x.policy(-1), BAD);
        DUE.is("BAD leaves THE TAPE", x.cut(13), 0);
        DUE.is("policy", x.policy(3), 0);
        DUE.is("THE TAPE is taken", x.cut(0), 0);
        DUE.is("rules", x.rules(0), 1);
        DUE.is("rules -1", x.rules(-1), BAD);
        for (int i = 1; i < 8; i++) {
            DUE.is("policy " + i, Due.policy(x, i % 4, "no any r any; yes own w t1/"), i);
        }
        DUE.is("policy 8, with a fault", Due.policy(x, 0, "what"), FULL);
        DUE.is("FULL leaves THE TAPE", x.cut(4), 0);
        DUE.is("BAD ahead of FULL", x.policy(9), BAD);
        DUE.is("rules of the last", x.rules(7), 2);
    }

    private static void inForce() {
        RightsHouse x = house();
        DUE.is("none in force", x.ask(0, R, 0), 0);
        DUE.is("by no rule", x.made(0), NONE);
        DUE.is("without a DUTY", x.made(1), 0);
        DUE.is("nothing spoke", x.made(3), 0);
        DUE.is("inForce none", x.inForce(0), BAD);
        Due.policy(x, 0, "yes any r any");
        Due.policy(x, 0, "maybe any r any");
        DUE.is("inForce", x.inForce(0), 1);
        DUE.is("ask", x.ask(0, R, 0), 1);
        DUE.is("inForce at the same moment", x.inForce(1), 1);
        DUE.is("the last told", x.ask(0, R, 0), 2);
        x.tick(5);
        DUE.is("still", x.ask(0, R, 0), 2);
        for (int i = 2; i < 40; i++) {
            DUE.is("inForce " + i, x.inForce(0), 1);
        }
        DUE.is("inForce 40", x.inForce(1), FULL);
        DUE.is("inForce BAD ahead of FULL", x.inForce(2), BAD);
        DUE.is("the last told that was not refused", x.ask(0, R, 0), 1);
        DUE.is("ask no person", x.ask(3, R, 0), BAD);
        DUE.is("ask no act", x.ask(0, 6, 0), BAD);
        DUE.is("ask no thing", x.ask(0, R, 4), BAD);
        DUE.is("ask a GONE thing", x.ask(0, R, 3), BAD);
        DUE.is("asked no policy", x.asked(2, 0, R, 0, 0), BAD);
        DUE.is("asked no person", x.asked(0, -1, R, 0, 0), BAD);
        DUE.is("asked no act", x.asked(0, 0, -1, 0, 0), BAD);
        DUE.is("asked a GONE thing", x.asked(0, 0, R, 3, 0), BAD);
        DUE.is("asked below 0", x.asked(0, 0, R, 0, -1), BAD);
        DUE.is("asked beyond", x.asked(0, 0, R, 0, 1000000001), BAD);
        DUE.is("asked the last moment", x.asked(0, 0, R, 0, 1000000000), 1);
        DUE.is("made 4", x.made(4), BAD);
        DUE.is("made -1", x.made(-1), BAD);
        DUE.is("nothing made, BAD ahead of NO", new RightsHouse().made(4), BAD);
    }

    private static void requests() {
        RightsHouse x = house();
        int p = Due.policy(x, 0, "yes g1 w t1/ if now >= 10 must 7; no own x any; yes p2 o t2; maybe any all t0 if age > 0");
        DUE.is("a group by another, act by another", x.asked(p, 0, R, 2, 10), 1);
        DUE.is("its DUTY", x.made(1), 7);
        DUE.is("its rule", x.made(0), 0);
        DUE.is("one spoke", x.made(3), 1);
        DUE.is("not yet in the group", x.asked(p, 0, R, 2, 9), 0);
        DUE.is("no more in the group", x.asked(p, 0, R, 2, 50), 0);
        DUE.is("w does not hold x", x.asked(p, 0, X, 2, 10), 0);
        DUE.is("t1/ is not THING 0", x.asked(p, 0, R, 0, 10), 0);
        x.cutOff(2, true);
        DUE.is("t1/ without what is CUT", x.asked(p, 0, R, 2, 10), 0);
        DUE.is("by no rule", x.made(0), NONE);
        x.cutOff(2, false);
        DUE.is("no to x", x.asked(p, 0, X, 1, 0), 0);
        DUE.is("by rule 1", x.made(0), 1);
        DUE.is("without a DUTY", x.made(1), 0);
        DUE.is("no to what holds x", x.asked(p, 0, O, 1, 0), 0);
        DUE.is("by rule 1, too", x.made(0), 1);
        DUE.is("no does not reach w", x.asked(p, 0, W, 1, 0), 0);
        DUE.is("by none", x.made(0), NONE);
        DUE.is("own is the owner alone", x.asked(p, 1, X, 1, 0), 0);
        DUE.is("own: by none", x.made(0), NONE);
        DUE.is("p2, o holds d", x.asked(p, 2, D, 2, 0), 1);
        DUE.is("p2 alone", x.asked(p, 1, D, 2, 0), 0);
        DUE.is("t2 alone", x.asked(p, 2, D, 1, 0), 0);
        x.tick(3);
        DUE.is("age", x.asked(p, 1, D, 0, 2), 2);
        DUE.is("age 0", x.asked(p, 1, D, 0, 3), 0);
        DUE.is("age below 0", x.asked(p, 1, D, 0, 4), 0);
        x.back(0);
        DUE.is("as KNOWN NOW", x.asked(p, 0, R, 2, 10), 0);
    }

    private static int way(RightsHouse x, int way, String text, int who, int act, int thing) {
        int policy = Due.policy(x, way, text);
        x.asked(policy, who, act, thing, 0);
        return x.made(0);
    }

    private static void ways() {
        String all = "yes any r any; maybe any r any; yes any r any if 1/0 = 1; no any r any; no any r any";
        DUE.is("the first", way(house(), 0, all, 0, R, 0), 0);
        DUE.is("by rank: no, the first", way(house(), 1, all, 0, R, 0), 3);
        DUE.is("by rank: FAIL", way(house(), 1, "yes any r any; maybe any r any; yes any r any if 1/0 = 1", 0, R, 0), 2);
        DUE.is("by rank: maybe", way(house(), 1, "yes any r any; maybe any r any; yes any r any", 0, R, 0), 1);
        DUE.is("by rank: yes", way(house(), 1, "no any w any; yes any r any; yes any r any", 0, R, 0), 1);
        DUE.is("by rank, wherever the thing lies", way(house(), 1, "yes any r t2; maybe any r any", 0, R, 2), 1);
        DUE.is("by rank, whoever", way(house(), 1, "yes p0 r any; maybe any r any", 0, R, 2), 1);
        DUE.is("the deepest, whoever", way(house(), 2, "yes p0 r any; maybe any r any", 0, R, 2), 1);
        DUE.is("who says most, wherever", way(house(), 3, "yes any r t2; maybe any r any", 0, R, 2), 1);
        RightsHouse x = house();
        int p = Due.policy(x, 0, all);
        x.asked(p, 0, R, 0, 0);
        DUE.is("all that SPEAK count", x.made(3), 5);
        String deep = "no any r any; no any r t0/; maybe any r t1/; yes any r t2/; yes any r t2; maybe any r t2/";
        DUE.is("the deepest: t2", way(house(), 2, deep, 0, R, 2), 4);
        DUE.is("the deepest: t1/", way(house(), 2, deep, 0, R, 1), 2);
        DUE.is("the deepest: t0/", way(house(), 2, deep, 0, R, 0), 1);
        DUE.is("of like depth by rank", way(house(), 2, "no any r t1/; yes any r t2/; maybe any r t2/", 0, R, 2), 2);
        DUE.is("t0 deeper than t0/", way(house(), 2, "no any r t0/; yes any r t0", 0, R, 0), 1);
        DUE.is("t1/ deeper than t0/ and any", way(house(), 2, "no any r t0/; no any r any; yes any r t1/", 0, R, 1), 2);
        String whos = "no any r any; maybe g0 r any; yes own r any; yes p0 r any";
        DUE.is("who says most: p", way(house(), 3, whos, 0, R, 1), 3);
        DUE.is("who says most: own", way(house(), 3, "no any r any; no g0 r any; yes own r any", 0, R, 1), 2);
        DUE.is("who says most: g", way(house(), 3, "no any r any; yes g0 r any", 0, R, 1), 1);
        DUE.is("who says most: any", way(house(), 3, "yes any r any; no any r any", 2, R, 1), 1);
        DUE.is("none SPEAKS", way(house(), 3, whos, 0, W, 1), 0);
        RightsHouse y = house();
        int moved = Due.policy(y, 2, "no any r t1/; yes any r t0/");
        DUE.is("DEPTH as it is", y.asked(moved, 0, R, 2, 0), 0);
    }

    private static int answer(String rule) {
        RightsHouse x = house();
        x.feature(0, 0, 1, 3);
        x.item(0, 0, 0, 4);
        x.item(0, 0, 1, -9);
        x.feature(0, 1, 3, 2);
        x.item(0, 1, 0, 4);
        x.item(0, 1, 1, -1);
        x.feature(0, 2, 2, 1);
        x.item(0, 2, 0, Double.doubleToLongBits(2.5));
        x.feature(0, 3, 1, 0);
        x.feature(101, 0, 1, 1);
        int answer = x.asked(Due.policy(x, 0, rule), 0, R, 1, 7);
        return answer == 3 ? 30 + x.made(2) : answer;
    }

    private static void truth(String condition, int want) {
        DUE.is(condition, answer("yes any r any if " + condition), want);
    }

    private static void unknowns() {
        String u = "me.e = 1";
        DUE.is("yes if UNKNOWN", answer("yes any r any if " + u), 0);
        DUE.is("maybe if UNKNOWN", answer("maybe any r any if " + u), 2);
        RightsHouse x = house();
        x.asked(Due.policy(x, 0, "no any r any if me.e = 1"), 0, R, 1, 0);
        DUE.is("no if UNKNOWN speaks", x.made(0), 0);
        truth("not " + u, 0);
        truth(u + " or 1 = 1", 1);
        truth("1 = 1 or " + u, 1);
        truth(u + " and 1 = 1", 0);
        DUE.is("UNKNOWN and TRUE", answer("maybe any r any if " + u + " and 1 = 1"), 2);
        DUE.is("TRUE and UNKNOWN", answer("maybe any r any if 1 = 1 and " + u), 2);
        DUE.is("UNKNOWN and FALSE", answer("maybe any r any if " + u + " and 1 = 2"), 0);
        DUE.is("FALSE and UNKNOWN", answer("maybe any r any if 1 = 2 and " + u), 0);
        DUE.is("UNKNOWN or FALSE", answer("maybe any r any if " + u + " or 1 = 2"), 2);
        DUE.is("FALSE or UNKNOWN", answer("maybe any r any if 1 = 2 or " + u), 2);
        DUE.is("not UNKNOWN", answer("maybe any r any if not (" + u + ")"), 2);
        DUE.is("UNKNOWN and FAIL", answer("maybe any r any if " + u + " and 1/0 = 1"), 35);
        DUE.is("UNKNOWN or FAIL", answer("maybe any r any if " + u + " or 1/0 = 1"), 35);
        truth("1 = 2 and 1/0 = 1", 0);
        truth("1 = 1 or 1/0 = 1", 1);
        truth("1/0 = 1 or 1 = 1", 35);
        truth("1/0 = 1 and 1 = 2", 35);
        truth("not 1/0 = 1", 35);
        truth("known me.a and not known me.e and known me.d", 1);
        DUE.is("each rule has a condition of its own", answer("maybe any r any if 1 = 2; yes any r any if known me.a"), 1);
        DUE.is("or none", answer("maybe any r any; yes any r any if known me.a"), 2);
    }

    private static void failures() {
        truth("me.a = 4 and me.a[1] = -9 and me.a[1 + 1] = 0", 1);
        truth("it.a = 0", 1);
        truth("size me.a = 3 and size me.d = 0", 1);
        truth("size me.e = 0 or 1 = 1", 1);
        DUE.is("size of NOTHING", answer("maybe any r any if size me.e = 0"), 2);
        truth("me.a[3] = 0", 32);
        truth("me.a[-1] = 0", 32);
        truth("me.a[me.a] = 0", 32);
        truth("me.d = 0", 32);
        truth("me.a[1.0] = 0", 34);
        truth("me.e[1.0] = 0", 34);
        truth("me.a[me.a[7]] = 0", 32);
        DUE.is("me.e[9] of NOTHING", answer("maybe any r any if me.e[9] = 0"), 2);
        DUE.is("UNKNOWN ends it", answer("maybe any r any if me.e + 1/0 = 0"), 2);
        truth("1/0 + me.e = 0", 35);
        truth("1 % 0 = 0", 35);
        truth("1 / 0.0 > 1", 1);
        truth("1.0 / 0 > 1", 1);
        truth("me.c = 2.5 and me.c * 2 = 5", 1);
        truth("4 in me.b and 0 - 1 in me.b and not 5 in me.b", 1);
        truth("me.b[1] = -1", 1);
        truth("4294967 * 1000 + 295 in me.b", 0);
        truth("4.0 in me.b", 34);
        truth("4.0 in me.e", 34);
        truth("4 in me.a", 34);
        truth("4 in me.c", 34);
        DUE.is("in NOTHING", answer("maybe any r any if 4 in me.e"), 2);
        truth("me.a[5] in me.e", 32);
        truth("-7 / 2 = -3 and -7 % 2 = -1 and 7 % -2 = 1", 1);
        truth("2 + 3 * 4 - 6 / 3 % 2 = 14", 1);
        truth("10 - 4 - 3 = 3 and 100 / 5 / 2 = 10", 1);
        truth("- 2 * 3 = -6 and - (2 - 5) = 3", 1);
        truth("now = 7 and age = -7", 1);
        truth("1 = 2 or 1 = 1 and 1 = 2", 0);
        truth("1 = 1 or 1 = 1 and 1 = 2", 1);
        truth("not 1 = 2 and 1 = 1", 1);
        truth("not (1 = 2 and 1 = 1)", 1);
        truth("999999999 * 999999999 * 999999999 = " + "999999999 * (999999999 * 999999999)", 1);
        truth("3 > 2 and 3 >= 3 and 2 < 3 and 3 <= 3 and 2 <> 3", 1);
    }

    /** A condition on WHOLES of a PERSON (me.a to me.h, in order). */
    private static int ofWholes(String condition, long... wholes) {
        RightsHouse x = Due.house(1, 0);
        for (int f = 0; f < wholes.length; f++) {
            x.feature(0, f, 1, 1);
            x.item(0, f, 0, wholes[f]);
        }
        int answer = x.asked(Due.policy(x, 0, "yes any r any if " + condition), 0, R, 0, 0);
        return answer == 3 ? 30 + x.made(2) : answer;
    }

    /** "WHOLES (running over)"; "/ of WHOLES is cut towards 0, % its rest"; "A division of WHOLES by 0: 5." */
    private static void wholes() {
        long least = Long.MIN_VALUE;
        long most = Long.MAX_VALUE;
        DUE.is("+ running over", ofWholes("me.a + 1 = me.b", most, least), 1);
        DUE.is("- running over", ofWholes("me.b - 1 = me.a", most, least), 1);
        DUE.is("* running over", ofWholes("me.a * 2 = -2", most), 1);
        DUE.is("* running over twice", ofWholes("me.a * me.a = 1", most), 1);
        DUE.is("- of the least", ofWholes("- me.a = me.a", least), 1);
        DUE.is("the least / -1", ofWholes("me.a / -1 = me.a", least), 1);
        DUE.is("the least % -1", ofWholes("me.a % -1 = 0", least), 1);
        DUE.is("the least / the least", ofWholes("me.a / me.a = 1", least), 1);
        DUE.is("the least / 0", ofWholes("me.a / 0 = 1", least), 35);
        DUE.is("the least % 0", ofWholes("me.a % 0 = 1", least), 35);
        DUE.is("0 / 0", ofWholes("0 / 0 = 1"), 35);
        DUE.is("0 % 0", ofWholes("0 % me.a = 1", 0), 35);
        DUE.is("towards 0 from above", ofWholes("me.a / 2 = me.b", -1, 0), 1);
        DUE.is("the rest of that", ofWholes("me.a % 2 = me.a", -1), 1);
        DUE.is("the next but no double of its own, =", ofWholes("me.a = me.b", most, most - 1), 0);
        DUE.is("the next but no double of its own, <>", ofWholes("me.a <> me.b", most, most - 1), 1);
        DUE.is("the next but no double of its own, >", ofWholes("me.a > me.b", most, most - 1), 1);
        DUE.is("the next but no double of its own, <=", ofWholes("me.a <= me.b", most, most - 1), 0);
        DUE.is("with a REAL both are REALS", ofWholes("me.a + 0.0 = me.b", most, most - 1), 1);
        DUE.is("the least and the greatest", ofWholes("me.a < me.b", least, most), 1);
        DUE.is("a place running over", ofWholes("me.a[me.a] = 0", 1L << 32), 32);
        DUE.is("the least place", ofWholes("me.a[me.a] = 0", least), 32);
        DUE.is("the greatest place", ofWholes("me.a[me.a] = 0", most), 32);
        RightsHouse x = Due.house(1, 0);
        x.feature(0, 0, 3, 20);
        x.item(0, 0, 0, -1);
        x.item(0, 0, 19, Integer.MIN_VALUE);
        x.feature(0, 1, 1, 1);
        x.item(0, 1, 0, 0xffffffffL);
        int p = Due.policy(x, 0, "yes any r any if me.b in me.a; maybe any r any if me.a[19] in me.a and me.a in me.a");
        DUE.is("a WHOLE beyond MARKS is none of them, the last MARK is", x.asked(p, 0, R, 0, 0), 2);
    }

    /** 28: "Of the latest ask(), asked(), askIn() that was not BAD", and nothing of those ahead of it. */
    private static void latestMade() {
        RightsHouse x = house();
        int p = Due.policy(x, 1, "yes any r any must 4; maybe any r t1 must 5; no any x t1 if 1/0 = 1 must 6");
        x.asked(p, 0, R, 1, 0);
        DUE.is("rule", x.made(0), 1);
        DUE.is("DUTY", x.made(1), 5);
        DUE.is("two SPOKE", x.made(3), 2);
        x.asked(p, 0, R, 1, 0);
        DUE.is("two SPOKE again", x.made(3), 2);
        DUE.is("FAIL", x.asked(p, 0, X, 1, 0), 3);
        DUE.is("its rule", x.made(0), 2);
        DUE.is("its DUTY", x.made(1), 6);
        DUE.is("its FAILURE", x.made(2), 5);
        DUE.is("none SPEAKS", x.asked(p, 0, W, 0, 0), 0);
        DUE.is("no rule", x.made(0), NONE);
        DUE.is("no DUTY", x.made(1), 0);
        DUE.is("no FAILURE", x.made(2), 0);
        DUE.is("none SPOKE", x.made(3), 0);
        x.asked(p, 0, R, 0, 0);
        DUE.is("one SPOKE", x.made(3), 1);
        DUE.is("BAD", x.asked(p, 0, R, 9, 0), BAD);
        DUE.is("which is none", x.made(1), 4);
        DUE.is("none in force", x.ask(0, R, 0), 0);
        DUE.is("by no rule", x.made(0), NONE);
        DUE.is("none SPOKE", x.made(3), 0);
    }

    /** "A request NOW", "to a PERSON and an ACT NOW", "All requests NOW", whatever moment was asked for ahead of it. */
    private static void askedNow() {
        RightsHouse x = house();
        Due.policy(x, 0, "yes any r any if now = 20 and age = 0");
        Due.policy(x, 0, "maybe any o t1");
        x.inForce(0);
        x.session(0);
        x.tick(20);
        DUE.is("asked for another moment", x.asked(0, 0, R, 0, 3), 0);
        DUE.is("ask", x.ask(0, R, 0), 1);
        x.asked(0, 0, R, 0, 3);
        DUE.is("askIn", x.askIn(0, R, 0), 1);
        x.asked(0, 0, R, 0, 3);
        DUE.is("may", x.may(0, 0, R, 2), 2);
        x.asked(0, 0, R, 0, 3);
        DUE.is("who", x.who(0, R, 0, 2), 2);
        x.asked(0, 0, R, 0, 3);
        DUE.is("decides", x.decides(0, 0), 9);
        x.asked(0, 0, R, 0, 3);
        DUE.is("compare", x.compare(0, 1), 24);
        DUE.is("only the first one", x.compared(1), 9);
        x.asked(0, 0, R, 0, 3);
        DUE.is("the other way", x.compare(1, 0), 24);
        DUE.is("only the second one", x.compared(0), 9);
        DUE.is("only the first one, anew", x.compared(1), 0);
        DUE.is("the requests, anew", x.compared(5), 3 * 6 * 3);
        x.asked(0, 0, R, 0, 3);
        DUE.is("could, for a moment of its own", x.could(R, 0, 20, 2), 2);
        DUE.is("could, for another one", x.could(R, 0, 19, 0), NONE);
    }

    /** "whose thing lies deepest (t2 deeper than t2/, by DEPTH of its THING first; any least)", 40 deep. */
    private static void deepest() {
        RightsHouse x = Due.house(1, 0);
        for (int t = 1; t < 40; t++) {
            x.thing(t - 1, NONE);
        }
        String rules = "yes any r t39; no any r t39/; no any r t38/; maybe any w t38/; no any r t0/; no any r any";
        int p = Due.policy(x, 2, rules);
        DUE.is("the deepest alone", x.asked(p, 0, R, 39, 0), 1);
        DUE.is("by DEPTH, then by rank", x.asked(p, 0, R, 38, 0), 0);
        DUE.is("by rule 2", x.made(0), 2);
        DUE.is("by DEPTH", x.asked(p, 0, R, 37, 0), 0);
        DUE.is("by rule 4", x.made(0), 4);
        x.move(39, 0);
        DUE.is("moved", x.asked(p, 0, R, 39, 0), 1);
        DUE.is("still alone", x.made(0), 0);
        x.cutOff(39, true);
        x.asked(Due.policy(x, 2, "no any r any; yes any r t0/"), 0, R, 39, 0);
        DUE.is("CUT: not UNDER t0", x.made(0), 0);
    }

    private static void mayAndWho() {
        RightsHouse x = house();
        int p = Due.policy(x, 1, "yes g0 r any; no any r t1; yes p2 r t1/");
        DUE.is("may 0", x.may(p, 0, R, 0), 0);
        DUE.is("may 1", x.may(p, 0, R, 1), 2);
        DUE.is("may 2", x.may(p, 0, R, 2), NONE);
        DUE.is("may of another", x.may(p, 2, R, 0), 2);
        DUE.is("may of none", x.may(p, 1, R, 0), NONE);
        DUE.is("may i far", x.may(p, 0, R, 1000000), NONE);
        DUE.is("may i below 0", x.may(p, 0, R, -1), BAD);
        DUE.is("may no policy", x.may(1, 0, R, 0), BAD);
        DUE.is("may no person", x.may(p, 3, R, 0), BAD);
        DUE.is("may no act", x.may(p, 0, 6, 0), BAD);
        DUE.is("who 0", x.who(p, R, 2, 0), 0);
        DUE.is("who 1", x.who(p, R, 2, 1), 2);
        DUE.is("who 2", x.who(p, R, 2, 2), NONE);
        DUE.is("who of t1", x.who(p, R, 1, 0), NONE);
        DUE.is("who i below 0", x.who(p, R, 2, -1), BAD);
        DUE.is("who no policy", x.who(-1, R, 2, 0), BAD);
        DUE.is("who no act", x.who(p, -1, 2, 0), BAD);
        DUE.is("who a GONE thing", x.who(p, R, 3, 0), BAD);
        DUE.is("they make nothing", x.made(0), NO);
        x.tick(100);
        DUE.is("NOW", x.may(p, 0, R, 0), NONE);
        DUE.is("NOW, who", x.who(p, R, 2, 0), 2);
        int all = Due.policy(x, 0, "yes any r any");
        DUE.is("the last person", x.who(all, R, 2, 2), 2);
        DUE.is("no more persons", x.who(all, R, 2, 3), NONE);
        DUE.is("the last thing", x.may(all, 0, R, 2), 2);
        DUE.is("no more things", x.may(all, 0, R, 3), NONE);
    }

    private static void compares() {
        RightsHouse x = house();
        int p = Due.policy(x, 0, "yes p1 r any; maybe p2 w t2");
        int q = Due.policy(x, 0, "yes p1 w t1/; no any all any");
        DUE.is("compare BAD", x.compare(p, 2), BAD);
        DUE.is("compare BAD the other way", x.compare(-1, q), BAD);
        DUE.is("compared, none yet", x.compared(0), NO);
        // 1 r 0 (yes, no); 1 w 1, 1 w 2 (no, yes); 2 r 2, 2 w 2 (maybe, no).
        DUE.is("compare", x.compare(p, q), 5);
        DUE.is("only the second", x.compared(0), 2);
        DUE.is("only the first", x.compared(1), 1);
        DUE.is("PERSON", x.compared(2), 1);
        DUE.is("ACT", x.compared(3), R);
        DUE.is("THING", x.compared(4), 0);
        DUE.is("requests", x.compared(5), 3 * 6 * 3);
        DUE.is("compared 6", x.compared(6), BAD);
        DUE.is("compared -1", x.compared(-1), BAD);
        DUE.is("compare BAD again", x.compare(p, 9), BAD);
        DUE.is("what is BAD changes nothing", x.compared(1), 1);
        DUE.is("the other way", x.compare(q, p), 5);
        DUE.is("only the second", x.compared(0), 1);
        DUE.is("the same", x.compare(q, q), 0);
        DUE.is("PERSON of none", x.compared(2), NONE);
        DUE.is("ACT of none", x.compared(3), NONE);
        DUE.is("THING of none", x.compared(4), NONE);
        DUE.is("it makes nothing", x.made(0), NO);
        RightsHouse y = house();
        int f = Due.policy(y, 0, "yes any all any if 1/0 = 1");
        int m = Due.policy(y, 0, "maybe any all any");
        DUE.is("FAIL and maybe differ", y.compare(f, m), 54);
        DUE.is("without yes", y.compared(0) + y.compared(1), 0);
    }

    private static void decides() {
        RightsHouse x = house();
        int p = Due.policy(x, 0, "yes p1 r any; yes any w t2; no p0 o t1");
        DUE.is("rule 0", x.decides(p, 0), 3);
        DUE.is("rule 1: r, w of t2, but p1 r", x.decides(p, 1), 5);
        DUE.is("rule 2: o alone holds o", x.decides(p, 2), 1);
        DUE.is("rule 3", x.decides(p, 3), BAD);
        DUE.is("rule -1", x.decides(p, -1), BAD);
        DUE.is("no policy", x.decides(1, 0), BAD);
    }
}
