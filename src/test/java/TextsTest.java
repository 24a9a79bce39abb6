/** Promise 23's texts at their edges: each byte, each end, the longest, and what one text leaves to the next one. */
final class TextsTest {
    private static final Due DUE = new Due("TextsTest");
    private static final int R = 0, X = 2;
    private static final String RULE = "yes any r any";

    public static void main(String[] args) {
        everyByte();
        everyByteBehindASign();
        bytesInWords();
        numbersAreNoSigns();
        endsWhereMoreIsWanted();
        longestTexts();
        figures();
        duties();
        nestings();
        textsBehindFaults();
        textsSideBySide();
        longConditions();
        DUE.end();
    }

    private static int policyOf(String text) {
        RightsHouse x = Due.house(3, 2);
        x.thing(0, 0);
        return Due.policy(x, 0, text);
    }

    private static void fault(String text, int place) {
        DUE.is("'" + text + "'", policyOf(text), -10 - place);
    }

    private static void fine(String text) {
        DUE.is("'" + text + "'", policyOf(text), 0);
    }

    private static boolean isOfAWord(int b) {
        return b >= 'a' && b <= 'z' || b >= '0' && b <= '9';
    }

    /** "a WORD .. goes as far as it can"; "blanks (32, 10) part them"; "of a byte that is none of these, its place". */
    private static void everyByte() {
        for (int b = 0; b < 256; b++) {
            String text = RULE + (char) b;
            int due = 13;
            if (b == ' ' || b == '\n') {
                due = -10;
            } else if (b == ';') {
                due = 14;
            } else if (isOfAWord(b)) {
                due = 10;
            }
            DUE.is("byte " + b + " behind a rule", policyOf(text), -10 - due);
        }
    }

    /** The same behind a number, where each sign is one, but few can go on. */
    private static void everyByteBehindASign() {
        String ahead = RULE + " if 1 < 22";
        for (int b = 0; b < 256; b++) {
            int due = 23;
            if (b == ' ' || b == '\n') {
                due = -10;
            } else if (b >= '0' && b <= '9') {
                due = -10;
            } else if (b == ';' || b == '+' || b == '-' || b == '*' || b == '/' || b == '%') {
                due = 24;
            }
            DUE.is("byte " + b + " behind a number", policyOf(ahead + (char) b), -10 - due);
        }
    }

    /** Bytes next to letters and figures end a WORD. */
    private static void bytesInWords() {
        for (char b : new char[] {'`', '{', 'A', 'Z', '@', '[', '/', ':', '_', 0, 31, 33, 127, 128, 224, 255}) {
            fault("yes" + b + " any r any", 3);
            fault("yes any" + b + " r any", 7);
            fault("yes p0" + b + " r any", 6);
            fault("yes any r" + b + " any", 9);
        }
        fault("yes\tany r any", 3);
        fault("yes any r any\r", 13);
        fine("yes\nany  r \n any\n");
    }

    /** Signs are known by what they are, not by a number of the same value. */
    private static void numbersAreNoSigns() {
        for (int n : new int[] {37, 40, 41, 42, 43, 45, 46, 47, 59, 60, 61, 62, 91, 93, 256, 257, 258}) {
            fault(RULE + " if 1 " + n + " 2", 19);
            fault(RULE + " if 1 = 1 " + n + " 2", 23);
            fault(RULE + " " + n + " " + RULE, 14);
        }
        for (int blanks = 0; blanks < 260; blanks++) {
            fault(RULE + " if 1" + " ".repeat(blanks) + "\nx 2", 19 + blanks);
        }
    }

    /** "its end, if more is wanted": at each place of a rule, and whatever the text ahead of it was. */
    private static void endsWhereMoreIsWanted() {
        String[] begun = {"", "yes", "yes any", "yes any r", RULE + ";", RULE + " if", RULE + " must", RULE + " if 1", RULE + " if 1 =",
            RULE + " if 1 +", RULE + " if 1 = 1 +", RULE + " if 1 = 1 -", RULE + " if 1 = 1 *", RULE + " if 1 = 1 /", RULE + " if 1 = 1 %",
            RULE + " if 1 = -", RULE + " if 1 = 1 or", RULE + " if 1 = 1 and", RULE + " if not", RULE + " if known", RULE + " if known me",
            RULE + " if known me .", RULE + " if 1 in", RULE + " if size", RULE + " if me . a [", RULE + " if me . a [ 1", RULE + " if (",
            RULE + " if ( 1", RULE + " if ( 1 = 1", RULE + " if ( 1 = 1 or", RULE + " if 1 = (", RULE + " if 1 = ( 1", RULE + " if 1 <",
            RULE + " if 1 <=", RULE + " if 1 >", RULE + " if 1 >=", RULE + " if 1 <>", RULE + " if 1 = 1 must", "yes any r t0 ; no"};
        for (String text : begun) {
            fault(text, text.length());
            fault(text + " \n ", text.length() + 3);
            // As long as THE TAPE can be, behind a text that went on there.
            RightsHouse x = Due.house(3, 2);
            Due.policy(x, 0, RULE + " if 1 = 1 must 1;".repeat(40));
            Due.text(x, text + " ".repeat(1200 - text.length()));
            DUE.is("'" + text + "' and blanks up to 1200", x.policy(0), -1210);
            x.cut(0);
            Due.text(x, " ".repeat(1200 - text.length()) + text);
            DUE.is("blanks and '" + text + "' up to 1200", x.policy(0), -1210);
        }
    }

    /** "THE TAPE is a row of 1200 bytes at most", all of which may be a text. */
    private static void longestTexts() {
        fine(" ".repeat(1187) + RULE);
        fine(RULE + "\n".repeat(1187));
        String rules = (RULE + ";").repeat(29) + RULE;
        fine(rules + " ".repeat(1200 - rules.length()));
        fault(rules + " ".repeat(1199 - rules.length()) + ";", 1200);
        fault(" ".repeat(1199) + "y", 1199);
        fault("y".repeat(1200), 0);
        fault("1".repeat(1200), 0);
        fault(RULE + " if " + "1".repeat(1183), 17);
        fault(RULE + " if " + "(".repeat(1183), 37);
        fault(RULE + " if 1 = " + "-".repeat(1179), 41);
        fault(RULE + " " + "p".repeat(1186), 14);
        fault(RULE + ";".repeat(1187), 14);
    }

    /** "NUMBERS: rows of figures, 1 to 9, or such, a point, 1 to 6 figures"; "a NUMBER too long: its first byte". */
    private static void figures() {
        fine(RULE + " if 1 = 999999999");
        fine(RULE + " if 1 = 000000000");
        fault(RULE + " if 1 = 0000000000", 21);
        fault(RULE + " if 1 = 1000000000", 21);
        fine(RULE + " if 1 = 999999999.999999");
        fault(RULE + " if 1 = 999999999.9999990", 21);
        fault(RULE + " if 1 = 0000000000.9", 21);
        fine(RULE + " if 1 = 0.0");
        fault(RULE + " if 1 = 0.", 22);
        fault(RULE + " if 1 = 0.a", 22);
        fault(RULE + " if 1 = .0", 21);
        fault(RULE + " if 1 = 1.5.5", 24);
        fault("yes 1234567890 r any", 4);
        for (char letter : new char[] {'p', 'g', 't'}) {
            String ahead = letter == 't' ? "yes any r " : "yes ";
            String behind = letter == 't' ? "" : " r any";
            fine(ahead + letter + "1" + behind);
            fine(ahead + letter + "000000001" + behind);
            fault(ahead + letter + "0000000001" + behind, ahead.length());
            fault(ahead + letter + "999999999" + behind, ahead.length());
            fault(ahead + letter + "3" + behind, ahead.length());
            fault(ahead + letter + behind, ahead.length());
            fault(ahead + letter + "1a" + behind, ahead.length());
        }
    }

    /** "must NUMBER (a whole one, the DUTY, 1 at least)". */
    private static void duties() {
        fault(RULE + " must 0", 19);
        fault(RULE + " must 000000000", 19);
        fine(RULE + " must 1");
        fault(RULE + " must 1.0", 19);
        fault(RULE + " must 1000000000", 19);
        fault(RULE + " must -1", 19);
        RightsHouse x = Due.house(1, 0);
        DUE.is("the greatest DUTY", x.asked(Due.policy(x, 0, RULE + " must 999999999"), 0, R, 0, 0), 1);
        DUE.is("as it is made", x.made(1), 999999999);
    }

    /** "They nest 20 deep at most (each ( [ - not counts until it is over)"; "too deep: the sign or word". */
    private static void nestings() {
        nestedConditions("(", ")", 20);
        nestedConditions("not ", "", 20);
        nestedConditions("(not ", ")", 10);
        nestedConditions("not (", ")", 10);
        nestedSums("(", ")", 20);
        nestedSums("-", "", 20);
        nestedSums("me.a[", "]", 20);
        nestedSums("-(", ")", 10);
        nestedSums("me.a[-", "]", 10);
        nestedSums("(me.a[", "])", 10);
    }

    private static void nestedConditions(String open, String close, int times) {
        String ahead = RULE + " if " + open.repeat(times);
        String behind = close.repeat(times);
        int place = ahead.length();
        fine(ahead + "1=1" + behind);
        fault(ahead + "(1=1)" + behind, place);
        fault(ahead + "not 1=1" + behind, place);
        fault(ahead + "-1=1" + behind, place);
        fault(ahead + "1=(1)" + behind, place + 2);
        fault(ahead + "me.a[1]=1" + behind, place + 4);
        fine(ahead + "me.a=1" + behind + " and " + open.repeat(times) + "1=1" + behind);
    }

    private static void nestedSums(String open, String close, int times) {
        String ahead = RULE + " if 1=" + open.repeat(times);
        String behind = close.repeat(times);
        String again = open.repeat(times) + "1" + behind;
        int place = ahead.length();
        fine(ahead + "1" + behind);
        fine(ahead + "1" + behind + "+" + again + "*" + again);
        fault(ahead + "-1" + behind, place);
        fault(ahead + "(1)" + behind, place);
        fault(ahead + "me.a[1]" + behind, place + 4);
    }

    /** What a text with a FAULT told is none of the next one's. */
    private static void textsBehindFaults() {
        String[] faulty = {"no p2 o t1/ must 9 !", "maybe own x t1 if 1/0 = 1 must 9 !", "maybe g1 w t1/ if 1 = 2 !", "yes p1 r t1 !"};
        String[] texts = {"yes any r any; no any r t0/", "no any r any; yes p0 r any", "maybe any all any; yes own r t0"};
        for (String bad : faulty) {
            for (String text : texts) {
                for (int way = 0; way < 4; way++) {
                    RightsHouse x = Due.house(3, 2);
                    x.thing(0, 0);
                    Due.policy(x, 0, bad + ";" + bad);
                    int behind = x.asked(Due.policy(x, way, text), 0, R, 1, 0);
                    RightsHouse y = Due.house(3, 2);
                    y.thing(0, 0);
                    String told = "'" + text + "' by " + way + " behind '" + bad + "'";
                    DUE.is(told, behind, y.asked(Due.policy(y, way, text), 0, R, 1, 0));
                    for (int what = 0; what < 4; what++) {
                        DUE.is(told + ", made " + what, x.made(what), y.made(what));
                    }
                }
            }
        }
    }

    /** Eight texts with conditions, each of which stays what it was. */
    private static void textsSideBySide() {
        RightsHouse x = Due.house(1, 0);
        x.feature(0, 0, 1, 1);
        for (int p = 0; p < 8; p++) {
            String text = RULE + " if me.a + 0 * 1 = " + p + " must " + (p + 1) + "; maybe any x any if me.a < " + p;
            DUE.is("policy " + p, Due.policy(x, 0, text), p);
            Due.policy(x, 0, "no any r any if 1 = 1 and 2 = 2 and 3 = 3 !");
        }
        for (int v = 0; v < 8; v++) {
            x.item(0, 0, 0, v);
            for (int p = 0; p < 8; p++) {
                DUE.is("policy " + p + " of " + v, x.asked(p, 0, R, 0, 0), p == v ? 1 : 0);
                DUE.is("its DUTY", x.made(1), p == v ? p + 1 : 0);
                DUE.is("its other rule", x.asked(p, 0, X, 0, 0), v < p ? 2 : 0);
            }
        }
        RightsHouse y = Due.house(1, 0);
        for (int p = 0; p < 8; p++) {
            Due.policy(y, 0, RULE + " if 1" + "+1".repeat(200) + "=" + (201 + p % 2));
        }
        for (int p = 0; p < 8; p++) {
            DUE.is("long policy " + p, y.asked(p, 0, R, 0, 0), 1 - p % 2);
        }
    }

    /** Whatever came ahead of it in a text, a comparison comes to what it does alone. */
    private static void longConditions() {
        String[] parts = {"(1)=1and ", "(0+1)=1and ", "(((1)))=1and ", "1=1and ", "(1=1)and ", "not 1=2and "};
        for (String part : parts) {
            String many = part.repeat(1100 / part.length());
            DUE.is(part, answer(RULE + " if " + many + "1+2*(3-4*(5-2))=-17"), 1);
            DUE.is(part + "false", answer(RULE + " if " + many + "1+2*(3-4*(5-2))=-16"), 0);
        }
        String[] unknown = {"1+me.e=1or ", "1+2*me.e=1or ", "1 in me.e or ", "me.e=1or ", "1+size me.e=1or "};
        for (String part : unknown) {
            String many = part.repeat(1100 / part.length());
            DUE.is(part, answer("maybe any r any if " + many + "1+2*(3-4*(5-2))=-17"), 2);
            DUE.is(part + "false", answer("maybe any r any if " + many + "1+2*(3-4*(5-2))=-16"), 2);
            DUE.is(part + "yes", answer(RULE + " if " + many + "1+2*(3-4*(5-2))=-17"), 1);
            DUE.is(part + "no", answer(RULE + " if " + many + "1+2*(3-4*(5-2))=-16"), 0);
        }
        RightsHouse x = Due.house(1, 0);
        int fails = Due.policy(x, 0, RULE + " if 1+(2*(3-1/0))=1");
        int holds = Due.policy(x, 0, RULE + " if 1+(2*(3-1/1))=5");
        for (int i = 0; i < 70; i++) {
            DUE.is("a condition that FAILS", x.asked(fails, 0, R, 0, 0), 3);
            DUE.is("by 0", x.made(2), 5);
            DUE.is("one that holds", x.asked(holds, 0, R, 0, 0), 1);
            DUE.is("by none", x.made(2), 0);
        }
    }

    private static int answer(String text) {
        RightsHouse x = Due.house(1, 0);
        return x.asked(Due.policy(x, 0, text), 0, R, 0, 0);
    }
}
