/** What the tests share: due answers, and texts put on THE PAGE. */
final class Due {
    static final int NONE = RedSkies.NONE, UNKNOWN = RedSkies.UNKNOWN, OUTSIDE = RedSkies.OUTSIDE;
    static final int STATE = RedSkies.STATE, FULL = RedSkies.FULL;
    private static int checks = 0;
    private static int wrong = 0;

    private Due() {
    }

    static void due(String call, long got, long want) {
        checks++;
        if (got != want) {
            wrong++;
            System.out.println(call + " answered " + got + ", due is " + want);
        }
    }

    /** What fits into one call of letters(). */
    static long packed(String text) {
        long w = 0;
        for (int i = text.length() - 1; i >= 0; i--) {
            w = w << 8 | text.charAt(i);
        }
        return w;
    }

    static void put(RedSkies x, String text) {
        for (int i = 0; i < text.length(); i += 8) {
            String some = text.substring(i, Math.min(text.length(), i + 8));
            due("letters(" + some + ")", x.letters(packed(some)), x.count(7));
        }
    }

    static int lamp(RedSkies x, String text) {
        put(x, text);
        return x.lamp();
    }

    static int measure(RedSkies x, String text) {
        put(x, text);
        return x.measure();
    }

    static int law(RedSkies x, String text) {
        put(x, text);
        return x.law();
    }

    /** A plain PICTURE by a HAND in a YEAR whose part 0 has this red. */
    static int red(RedSkies x, int hand, int year, int v) {
        int number = x.picture(0, hand, year, 0, NONE, NONE);
        x.colour(number, 0, 0, v);
        return number;
    }

    /** Checks that a refused call left everything as it was. */
    static void unchanged(String call, RedSkies x, long digest) {
        due(call + ", then digest()", x.digest(), digest);
    }

    static void finish() {
        System.out.println(checks + " answers looked at, " + wrong + " not as due");
        if (wrong != 0) {
            System.exit(1);
        }
    }
}
