/** Counts and prints the calls whose answer is not the one that is due. */
final class Due {
    private final String test;
    private int asked;
    private int wrong;

    Due(String test) {
        this.test = test;
    }

    void is(String call, long got, long want) {
        asked++;
        if (got != want) {
            wrong++;
            System.out.println(test + ": " + call + " answered " + got + ", due is " + want);
        }
    }

    /** Ends the program, with exit code 1 if an answer was wrong. */
    void end() {
        System.out.println(test + ": " + asked + " answers, " + wrong + " wrong");
        System.exit(wrong == 0 ? 0 : 1);
    }

    static RightsHouse house(int persons, int groups) {
        RightsHouse x = new RightsHouse();
        for (int i = 0; i < persons; i++) {
            x.person();
        }
        for (int i = 0; i < groups; i++) {
            x.group();
        }
        return x;
    }

    /** Feeds a text to the tape. */
    static void text(RightsHouse x, String text) {
        for (int i = 0; i < text.length(); i += 8) {
            int n = Math.min(8, text.length() - i);
            long w = 0;
            for (int k = 0; k < n; k++) {
                w = w << 8 | text.charAt(i + k) & 255;
            }
            x.feed(n, w);
        }
    }

    static int policy(RightsHouse x, int way, String text) {
        text(x, text);
        return x.policy(way);
    }

    /** Feeds numbers of four bytes to the tape. */
    static void numbers(RightsHouse x, long... numbers) {
        for (long number : numbers) {
            x.feed(4, number);
        }
    }
}
