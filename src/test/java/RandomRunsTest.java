import java.util.Random;

/** Runs of calls by fixed seeds, each answer held against Slow's; arguments mostly right, some wrong. */
public final class RandomRunsTest {
    private static final int RUNS = 180, CALLS = 500, DEAR_CALLS = 25;
    private static final int[] ODD = {-1, -2, 5, 6, 10, 17, 99, 401, Integer.MIN_VALUE, Integer.MAX_VALUE};

    private final Random random;
    private final RedSkies x = new RedSkies();
    private final Slow slow = new Slow();
    private final int years;
    private int calls = 0;

    private RandomRunsTest(long seed) {
        random = new Random(seed);
        years = random.nextBoolean() ? 401 : 40;
    }

    public static void main(String[] args) {
        for (int run = 0; run < RUNS; run++) {
            RandomRunsTest one = new RandomRunsTest(run);
            if (run % 3 != 0) {
                one.prepare("run " + run + ", ahead, ");
            }
            one.go("run " + run + ", ");
        }
        Due.finish();
    }

    /** MEASURES, MOUNTAINS and PICTURES around them by few HANDS, so that ODDS are worth a look. */
    private void prepare(String at) {
        int hands = 1 + random.nextInt(3);
        int shades = random.nextBoolean() ? 4 : 100;
        int pictures = 5 + random.nextInt(12);
        for (String text : new String[] {"r0/g3", measureText()}) {
            x.blank();
            slow.blank();
            putText(at, text);
            due(at + "measure", x.measure(), slow.measure());
        }
        putText(at, "100,150,250,900;40");
        due(at + "law", x.law(), slow.law());
        for (int i = 0; i < 3; i++) {
            int year = random.nextInt(60);
            due(at + "mountain", x.mountain(year), slow.mountain(year));
        }
        for (int i = 0; i < pictures; i++) {
            int kind = random.nextInt(5);
            int hand = random.nextInt(hands);
            int year = random.nextInt(60);
            due(at + "picture", x.picture(kind, hand, year, 3, -1, -1), slow.picture(kind, hand, year, 3, -1, -1));
            for (int part = 0; part < 4; part++) {
                int v = random.nextInt(shades);
                due(at + "colour", x.colour(i, part, part % 3, v), slow.colour(i, part, part % 3, v));
            }
        }
        due(at + "image", x.image(), slow.image());
    }

    private void go(String run) {
        int dealings = 0;
        while (calls < CALLS) {
            int sort = random.nextInt(46);
            boolean isDear = sort >= 27 && sort <= 31;
            if (isDear && ++dealings > DEAR_CALLS) {
                sort = 16;
            }
            call(run + "call " + calls + " ", sort);
        }
        Due.due(run + "digest()", x.digest(), slow.digest());
    }

    /** What an object answers beyond 512 calls is free: each call on it is counted here. */
    private void due(String call, long got, long want) {
        calls++;
        Due.due(call, got, want);
    }

    /** 0 to d - 1, now and then a number that is outside most bounds. */
    private int some(int d) {
        return random.nextInt(25) == 0 ? ODD[random.nextInt(ODD.length)] : random.nextInt(d);
    }

    private int year() {
        return some(years);
    }

    private int orNone(int d) {
        return random.nextInt(3) == 0 ? Due.NONE : some(d);
    }

    private void call(String at, int sort) {
        if (sort < 9) {
            callText(at, sort);
        } else if (sort < 26) {
            callPicture(at, sort);
        } else if (sort < 32) {
            callNear(at, sort);
        } else if (sort < 40) {
            callDust(at, sort);
        } else {
            callTold(at, sort);
        }
    }

    private void callText(String at, int sort) {
        int a = some(3);
        switch (sort) {
            case 0 -> due(at + "blank", x.blank(), slow.blank());
            case 1 -> due(at + "fault", x.fault(a), slow.fault(a));
            case 2 -> due(at + "lamp", x.lamp(), slow.lamp());
            case 3 -> due(at + "measure", x.measure(), slow.measure());
            case 4 -> due(at + "law", x.law(), slow.law());
            case 5 -> {
                long w = random.nextLong() >>> random.nextInt(64);
                due(at + "letters", x.letters(w), slow.letters(w));
            }
            default -> text(at, random.nextInt(3));
        }
    }

    private void putText(String at, String text) {
        for (int i = 0; i < text.length(); i += 8) {
            long w = Due.packed(text.substring(i, Math.min(text.length(), i + 8)));
            due(at + "letters", x.letters(w), slow.letters(w));
        }
    }

    /** A text of a sort, at times with a letter changed or the end cut off, looked at and read. */
    private void text(String at, int sort) {
        StringBuilder text = new StringBuilder(sort == 0 ? lampText() : sort == 1 ? measureText() : lawText());
        if (random.nextInt(3) == 0) {
            text.setCharAt(random.nextInt(text.length()), "rgb+-/,;0123459".charAt(random.nextInt(15)));
        }
        if (random.nextInt(4) == 0) {
            text.setLength(random.nextInt(text.length()) + 1);
        }
        due(at + "blank", x.blank(), slow.blank());
        putText(at, text.toString());
        for (int a = 0; a < 3; a++) {
            due(at + "fault of " + text, x.fault(a), slow.fault(a));
        }
        switch (sort) {
            case 0 -> due(at + "lamp of " + text, x.lamp(), slow.lamp());
            case 1 -> due(at + "measure of " + text, x.measure(), slow.measure());
            default -> due(at + "law of " + text, x.law(), slow.law());
        }
    }

    private String lampText() {
        String colours = new String[] {"rgb", "gr", "b", "rb", "bgr"}[random.nextInt(5)];
        StringBuilder text = new StringBuilder();
        for (char colour : colours.toCharArray()) {
            text.append(colour).append(random.nextBoolean() ? '+' : '-').append(random.nextInt(22));
        }
        return text.toString();
    }

    private String sumText() {
        StringBuilder text = new StringBuilder();
        int terms = 1 + random.nextInt(4) * random.nextInt(2);
        for (int i = 0; i < terms; i++) {
            text.append(i == 0 ? "" : "+").append("rgb".charAt(random.nextInt(3)));
            int parts = 1 + random.nextInt(15);
            for (int part = 0; part < 4; part++) {
                text.append((parts >> part & 1) == 1 ? "" + part : "");
            }
        }
        return text.toString();
    }

    private String measureText() {
        return sumText() + "/" + sumText();
    }

    private String lawText() {
        StringBuilder text = new StringBuilder();
        int bound = 0;
        int bounds = 1 + random.nextInt(5);
        for (int i = 0; i < bounds; i++) {
            bound += random.nextInt(random.nextInt(8) == 0 ? 500 : 90) + (random.nextInt(9) == 0 ? 0 : 1);
            text.append(i == 0 ? "" : ",").append(bound);
        }
        return text.append(';').append(random.nextInt(random.nextBoolean() ? 100 : 12)).toString();
    }

    private void callPicture(String at, int sort) {
        int p = some(Math.max(1, slow.count(2)));
        int a = some(4);
        int b = some(3);
        int c = some(100);
        int y = year();
        if (sort < 14) {
            int[] t = {some(5), some(random.nextBoolean() ? 5 : 2), y, some(21), orNone(4), orNone(4)};
            due(at + "picture", x.picture(t[0], t[1], t[2], t[3], t[4], t[5]),
                    slow.picture(t[0], t[1], t[2], t[3], t[4], t[5]));
        } else if (sort < 19) {
            int v = random.nextBoolean() ? c : some(4);
            due(at + "colour", x.colour(p, a, b, v), slow.colour(p, a, b, v));
        } else {
            callAboutPicture(at, sort, p, y);
        }
    }

    private void callAboutPicture(String at, int sort, int p, int y) {
        int a = some(5);
        int w = some(10);
        int what = some(22);
        int fade = some(10);
        int seed = random.nextInt() >>> (random.nextInt(9) == 0 ? 0 : 1);
        int many = some(random.nextInt(4) == 0 ? 9 : 3);
        switch (sort) {
            case 19 -> due(at + "as", x.as(p, a), slow.as(p, a));
            case 20 -> due(at + "about", x.about(p, what), slow.about(p, what));
            case 21 -> due(at + "value", x.value(a, p), slow.value(a, p));
            case 22 -> due(at + "mountain", x.mountain(y), slow.mountain(y));
            case 23 -> due(at + "near", x.near(p, w), slow.near(p, w));
            case 24 -> due(at + "paint", x.paint(a, many, seed), slow.paint(a, many, seed));
            default -> due(at + "pigment", x.pigment(y, fade), slow.pigment(y, fade));
        }
    }

    private void callNear(String at, int sort) {
        int m = some(Math.max(1, slow.count(3)));
        int w = some(10);
        int few = some(3);
        int part = random.nextInt(12) == 0 ? some(9) : random.nextInt(2);
        switch (sort) {
            case 26 -> due(at + "stat", x.stat(m, w), slow.stat(m, w));
            case 27, 28 -> due(at + "odds", x.odds(m, w, part), slow.odds(m, w, part));
            case 29 -> due(at + "paid", x.paid(few, part), slow.paid(few, part));
            case 30 -> due(at + "hangs", x.hangs(m, w), slow.hangs(m, w));
            default -> due(at + "next", x.next(m, w), slow.next(m, w));
        }
    }

    private void callDust(String at, int sort) {
        int m = some(Math.max(1, slow.count(3)));
        int p = some(Math.max(1, slow.count(2)));
        int end = some(random.nextInt(12) == 0 ? 4 : 2);
        int what = some(3);
        int y = random.nextBoolean() && slow.count(2) > 0 ? slow.about(random.nextInt(slow.count(2)), 2) : year();
        int low = orNone(6);
        int high = random.nextInt(4) == 0 ? some(6) : Math.max(low, random.nextInt(6));
        switch (sort) {
            case 32, 33 -> due(at + "ice", x.ice(y, low, high), slow.ice(y, low, high));
            case 34 -> due(at + "classes", x.classes(m, p, end), slow.classes(m, p, end));
            case 35, 36 -> due(at + "back", x.back(m, y, end), slow.back(m, y, end));
            case 37, 38 -> due(at + "dates", x.dates(m, p, what), slow.dates(m, p, what));
            default -> due(at + "wrong", x.wrong(m), slow.wrong(m));
        }
    }

    private void callTold(String at, int sort) {
        int what = some(9);
        switch (sort) {
            case 40 -> due(at + "image", x.image(), slow.image());
            case 41 -> {
                if (random.nextInt(3) == 0) {
                    due(at + "restore", x.restore(), slow.restore());
                }
            }
            case 42 -> {
                if (random.nextInt(8) == 0) {
                    due(at + "digest", x.digest(), slow.digest());
                }
            }
            default -> due(at + "count", x.count(what), slow.count(what));
        }
    }
}
