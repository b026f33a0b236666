/** Promises 8 to 16: PIGMENTS, PICTURES, their COLOURS and VALUES, MOUNTAINS, PAINTED ones. */
public final class PicturesTest {
    private static final int LEAST = Integer.MIN_VALUE;

    public static void main(String[] args) {
        pigment();
        picture();
        pictureRefusals();
        colour();
        as();
        about();
        putRight();
        value();
        mountain();
        near();
        paint();
        paintByHand();
        Due.finish();
    }

    private static void pigment() {
        RedSkies x = new RedSkies();
        Due.due("pigment(-1, 0)", x.pigment(-1, 0), Due.OUTSIDE);
        Due.due("pigment(401, 0)", x.pigment(401, 0), Due.OUTSIDE);
        Due.due("pigment(0, -1)", x.pigment(0, -1), Due.OUTSIDE);
        Due.due("pigment(0, 10)", x.pigment(0, 10), Due.OUTSIDE);
        Due.due("count(1) behind refusals", x.count(1), 0);
        Due.due("pigment(0, 0)", x.pigment(0, 0), 0);
        Due.due("pigment(400, 9)", x.pigment(400, 9), 1);
        Due.due("pigment(7, 7) third", x.pigment(7, 7), 2);
        Due.due("pigment(7, 7) fourth", x.pigment(7, 7), 3);
        long digest = x.digest();
        Due.due("pigment(7, 7) fifth", x.pigment(7, 7), Due.FULL);
        Due.due("pigment(401, 7) fifth", x.pigment(401, 7), Due.OUTSIDE);
        Due.unchanged("pigment() refused", x, digest);
    }

    private static void picture() {
        RedSkies x = new RedSkies();
        Due.lamp(x, "r+1");
        x.pigment(100, 1);
        Due.due("picture() of a MEMORY", x.picture(4, 4, 400, 20, 0, 0), 0);
        int[] told = {4, 4, 400, 20, 0, 0};
        for (int what = 0; what < 6; what++) {
            Due.due("about(0, " + what + ")", x.about(0, what), told[what]);
        }
        Due.due("picture() of a STUDY", x.picture(1, 0, 0, 20, -1, -1), 1);
        Due.due("SPAN of a STUDY", x.about(1, 3), 0);
        Due.due("LAMP NONE", x.about(1, 4), Due.NONE);
        Due.due("PIGMENT NONE", x.about(1, 5), Due.NONE);
        Due.due("picture() of a WINDOW", x.picture(2, 0, 0, 20, -1, -1), 2);
        Due.due("SPAN of a WINDOW", x.about(2, 3), 0);
        Due.due("picture() of a COPY", x.picture(3, 0, 0, 13, -1, -1), 3);
        Due.due("SPAN of a COPY", x.about(3, 3), 13);
        for (int cell = 10; cell <= 21; cell++) {
            Due.due("COLOURS are 0 until told", x.about(0, cell) + x.about(3, cell), cell % 3 == 1 ? 2 : 0);
        }
        for (int i = 4; i < 16; i++) {
            Due.due("picture() " + i, x.picture(0, 0, 0, 0, -1, -1), i);
        }
        long digest = x.digest();
        Due.due("picture() 16", x.picture(0, 0, 0, 0, -1, -1), Due.FULL);
        Due.due("picture() 16 of kind 5", x.picture(5, 0, 0, 0, -1, -1), Due.OUTSIDE);
        Due.due("picture() 16 under lamp 1", x.picture(0, 0, 0, 0, 1, -1), Due.UNKNOWN);
        Due.unchanged("picture() refused", x, digest);
    }

    private static void pictureRefusals() {
        RedSkies x = new RedSkies();
        Due.lamp(x, "r+1");
        x.pigment(100, 1);
        long digest = x.digest();
        Due.due("kind -1", x.picture(-1, 0, 0, 0, -1, -1), Due.OUTSIDE);
        Due.due("kind 5", x.picture(5, 0, 0, 0, -1, -1), Due.OUTSIDE);
        Due.due("hand -1", x.picture(0, -1, 0, 0, -1, -1), Due.OUTSIDE);
        Due.due("hand 5", x.picture(0, 5, 0, 0, -1, -1), Due.OUTSIDE);
        Due.due("year -1", x.picture(0, 0, -1, 0, -1, -1), Due.OUTSIDE);
        Due.due("year 401", x.picture(0, 0, 401, 0, -1, -1), Due.OUTSIDE);
        Due.due("span -1", x.picture(0, 0, 0, -1, -1, -1), Due.OUTSIDE);
        Due.due("span 21", x.picture(0, 0, 0, 21, -1, -1), Due.OUTSIDE);
        Due.due("span 21 of a STUDY", x.picture(1, 0, 0, 21, -1, -1), Due.OUTSIDE);
        Due.due("lamp 1", x.picture(0, 0, 0, 0, 1, -1), Due.UNKNOWN);
        Due.due("lamp -2", x.picture(0, 0, 0, 0, -2, -1), Due.UNKNOWN);
        Due.due("pigment 1", x.picture(0, 0, 0, 0, -1, 1), Due.UNKNOWN);
        Due.due("pigment least", x.picture(0, 0, 0, 0, -1, LEAST), Due.UNKNOWN);
        Due.due("OUTSIDE ahead of UNKNOWN", x.picture(0, 0, 0, 21, 9, 9), Due.OUTSIDE);
        Due.unchanged("picture() refused", x, digest);
    }

    private static void colour() {
        RedSkies x = new RedSkies();
        Due.due("colour() of none", x.colour(0, 9, 9, 999), Due.UNKNOWN);
        x.picture(0, 0, 0, 0, -1, -1);
        x.picture(0, 0, 0, 0, -1, -1);
        Due.due("colour() first", x.colour(1, 3, 2, 99), 0);
        Due.due("colour() again", x.colour(1, 3, 2, 0), 99);
        Due.due("colour() once more", x.colour(1, 3, 2, 7), 0);
        Due.due("told", x.about(1, 21), 7);
        Due.due("the other one", x.about(0, 21), 0);
        Due.due("PART 1 red", x.colour(1, 1, 0, 31), 0);
        Due.due("told at 13", x.about(1, 13), 31);
        long digest = x.digest();
        Due.due("picture 2", x.colour(2, 0, 0, 0), Due.UNKNOWN);
        Due.due("picture -1", x.colour(-1, 0, 0, 0), Due.UNKNOWN);
        Due.due("part -1", x.colour(0, -1, 0, 1), Due.OUTSIDE);
        Due.due("part 4", x.colour(0, 4, 0, 1), Due.OUTSIDE);
        Due.due("colour -1", x.colour(0, 1, -1, 1), Due.OUTSIDE);
        Due.due("colour 3", x.colour(0, 0, 3, 1), Due.OUTSIDE);
        Due.due("v -1", x.colour(0, 0, 0, -1), Due.OUTSIDE);
        Due.due("v 100", x.colour(0, 0, 0, 100), Due.OUTSIDE);
        Due.unchanged("colour() refused", x, digest);
    }

    private static void as() {
        RedSkies x = new RedSkies();
        for (int kind = 0; kind <= 4; kind++) {
            x.picture(kind, 0, 0, 0, -1, -1);
        }
        String[] can = {"10000", "11000", "11100", "10010", "10001"};
        for (int number = 0; number <= 4; number++) {
            for (int kind = 0; kind <= 4; kind++) {
                int want = can[number].charAt(kind) == '1' ? number : Due.NONE;
                Due.due("as(" + number + ", " + kind + ")", x.as(number, kind), want);
            }
        }
        Due.due("as(5, 0)", x.as(5, 0), Due.UNKNOWN);
        Due.due("as(-1, 9)", x.as(-1, 9), Due.UNKNOWN);
        Due.due("as(0, -1)", x.as(0, -1), Due.OUTSIDE);
        Due.due("as(0, 5)", x.as(0, 5), Due.OUTSIDE);
    }

    private static void about() {
        RedSkies x = new RedSkies();
        Due.due("about(0, 99) of none", x.about(0, 99), Due.UNKNOWN);
        x.picture(3, 2, 77, 5, -1, -1);
        for (int part = 0; part < 4; part++) {
            for (int colour = 0; colour < 3; colour++) {
                x.colour(0, part, colour, 30 + 3 * part + colour);
            }
        }
        int[] facts = {3, 2, 77, 5, -1, -1};
        for (int what = 0; what < 6; what++) {
            Due.due("about(0, " + what + ")", x.about(0, what), facts[what]);
        }
        for (int what = 10; what <= 21; what++) {
            Due.due("about(0, " + what + ")", x.about(0, what), 20 + what);
        }
        for (int what : new int[] {-1, 6, 7, 8, 9, 22, 23, LEAST, Integer.MAX_VALUE}) {
            Due.due("about(0, " + what + ")", x.about(0, what), Due.OUTSIDE);
        }
        Due.due("about(1, 0)", x.about(1, 0), Due.UNKNOWN);
        Due.due("about(-1, 0)", x.about(-1, 0), Due.UNKNOWN);
    }

    private static int rightRed(int year, String lamp, int fade, int v) {
        RedSkies x = new RedSkies();
        int under = lamp.isEmpty() ? Due.NONE : Due.lamp(x, lamp);
        int with = fade < 0 ? Due.NONE : x.pigment(0, fade);
        x.picture(0, 0, year, 0, under, with);
        x.colour(0, 2, 0, v);
        return x.about(0, 16);
    }

    private static void putRight() {
        Due.due("by day", rightRed(400, "", -1, 55), 55);
        Due.due("r+20 of 55", rightRed(400, "r+20", -1, 55), 35);
        Due.due("r+20 of 20", rightRed(400, "r+20", -1, 20), 0);
        Due.due("r+20 of 19", rightRed(400, "r+20", -1, 19), 0);
        Due.due("r-20 of 79", rightRed(400, "r-20", -1, 79), 99);
        Due.due("r-20 of 80", rightRed(400, "r-20", -1, 80), 99);
        Due.due("fade 3, 100 years", rightRed(400, "", 3, 10), 16);
        Due.due("fade 3, 149 years", rightRed(351, "", 3, 10), 16);
        Due.due("fade 3, 150 years", rightRed(350, "", 3, 10), 19);
        Due.due("fade 9, 500 years", rightRed(0, "", 9, 9), 99);
        Due.due("fade 9, 500 years", rightRed(0, "", 9, 8), 98);
        Due.due("fade 9, 500 years, much", rightRed(0, "", 9, 70), 99);
        Due.due("fade 0", rightRed(0, "", 0, 9), 9);
        Due.due("0 at least ahead of what is lost", rightRed(400, "r+20", 2, 5), 4);
        Due.due("99 at most ahead of what is lost", rightRed(400, "r-20", 2, 90), 99);
        RedSkies x = new RedSkies();
        x.pigment(0, 9);
        x.picture(0, 0, 0, 0, -1, 0);
        Due.due("green does not fade", x.about(0, 11), 0);
        Due.due("blue does not fade", x.about(0, 12), 0);
        Due.due("red does", x.about(0, 10), 90);
    }

    private static void value() {
        RedSkies x = new RedSkies();
        Due.due("value() of none", x.value(0, 0), Due.UNKNOWN);
        Due.measure(x, "r0+g13+r0/b2");
        Due.measure(x, "r0123/g0123");
        Due.measure(x, "r0123+r0123+r0123+r0123/b0");
        Due.due("value() without a PICTURE", x.value(0, 0), Due.UNKNOWN);
        x.picture(0, 0, 0, 0, -1, -1);
        x.picture(0, 0, 0, 0, -1, -1);
        x.colour(0, 0, 0, 10);
        x.colour(0, 1, 1, 5);
        x.colour(0, 3, 1, 4);
        x.colour(0, 2, 2, 3);
        Due.due("value(0, 0): 2900 by 3", x.value(0, 0), 966);
        Due.due("value(1, 0): 1000 by 9", x.value(1, 0), 111);
        Due.due("value(0, 1) of nothing", x.value(0, 1), 0);
        x.colour(1, 0, 0, 1);
        Due.due("value(0, 1) by 1 at least", x.value(0, 1), 200);
        for (int part = 0; part < 4; part++) {
            x.colour(1, part, 0, 99);
        }
        Due.due("the greatest VALUE", x.value(2, 1), 158400);
        x.colour(1, 0, 2, 99);
        Due.due("by 99", x.value(2, 1), 1600);
        Due.due("measure 3", x.value(3, 0), Due.UNKNOWN);
        Due.due("measure -1", x.value(-1, 0), Due.UNKNOWN);
        Due.due("picture 2", x.value(0, 2), Due.UNKNOWN);
        Due.due("picture -1", x.value(0, -1), Due.UNKNOWN);
    }

    private static void mountain() {
        RedSkies x = new RedSkies();
        Due.due("mountain(-1)", x.mountain(-1), Due.OUTSIDE);
        Due.due("mountain(401)", x.mountain(401), Due.OUTSIDE);
        int[] years = {0, 400, 7, 7, 8, 9};
        for (int i = 0; i < 6; i++) {
            Due.due("mountain(" + years[i] + ")", x.mountain(years[i]), i);
        }
        long digest = x.digest();
        Due.due("mountain(1), a seventh", x.mountain(1), Due.FULL);
        Due.due("mountain(401), a seventh", x.mountain(401), Due.OUTSIDE);
        Due.unchanged("mountain() refused", x, digest);
    }

    private static void near() {
        RedSkies x = new RedSkies();
        Due.due("near() of none", x.near(0, 99), Due.UNKNOWN);
        x.picture(0, 0, 104, 0, -1, -1);
        x.picture(4, 0, 109, 0, -1, -1);
        x.picture(3, 0, 100, 0, -1, -1);
        x.picture(2, 0, 100, 0, -1, -1);
        x.picture(1, 0, 99, 0, -1, -1);
        Due.due("without MOUNTAINS", x.near(3, 9), 0);
        x.mountain(100);
        x.mountain(300);
        Due.due("4 years, by 3", x.near(0, 3), 0);
        Due.due("4 years, by 4", x.near(0, 4), 1);
        Due.due("a MEMORY, 9 years, by 3", x.near(1, 3), 0);
        Due.due("a MEMORY, 9 years, by 4", x.near(1, 4), 1);
        Due.due("a COPY", x.near(2, 0), Due.NONE);
        Due.due("a WINDOW of the YEAR itself", x.near(3, 0), 1);
        Due.due("a STUDY ahead of it", x.near(4, 9), 0);
        x.picture(0, 0, 0, 0, -1, -1);
        Due.due("YEAR 0, in which none went off", x.near(5, 9), 0);
        x.mountain(0);
        Due.due("YEAR 0, in which one did", x.near(5, 0), 1);
        for (int i = 0; i < 3; i++) {
            x.mountain(104);
        }
        Due.due("the sixth MOUNTAIN", x.near(0, 0), 1);
        Due.due("none of six", x.near(4, 9), 0);
        Due.due("w -1", x.near(0, -1), Due.OUTSIDE);
        Due.due("w 10", x.near(0, 10), Due.OUTSIDE);
        Due.due("w 10 of a COPY", x.near(2, 10), Due.OUTSIDE);
        Due.due("picture 6", x.near(6, 0), Due.UNKNOWN);
        Due.due("picture -1", x.near(-1, 0), Due.UNKNOWN);
    }

    private static void paint() {
        RedSkies x = new RedSkies();
        Due.due("hand -1", x.paint(-1, 1, 0), Due.OUTSIDE);
        Due.due("hand 5", x.paint(5, 1, 0), Due.OUTSIDE);
        Due.due("many 0", x.paint(0, 0, 0), Due.OUTSIDE);
        Due.due("many 9", x.paint(0, 9, 0), Due.OUTSIDE);
        Due.due("seed -1", x.paint(0, 1, -1), Due.OUTSIDE);
        Due.due("count(2) behind refusals", x.count(2), 0);
        Due.due("seed 0", new RedSkies().paint(0, 1, 0), 1);
        Due.due("paint(4, 8, 7)", x.paint(4, 8, 7), 8);
        Due.due("paint(0, 7, greatest)", x.paint(0, 7, Integer.MAX_VALUE), 15);
        Due.due("paint(0, 2, 1) beyond 16", x.paint(0, 2, 1), 16);
        long digest = x.digest();
        Due.due("paint(0, 1, 1) at 16", x.paint(0, 1, 1), 16);
        Due.unchanged("paint() at 16", x, digest);
        Due.due("KIND", x.about(0, 0), 0);
        Due.due("HAND", x.about(0, 1), 4);
        Due.due("LAMP", x.about(0, 4), Due.NONE);
        Due.due("PIGMENT", x.about(0, 5), Due.NONE);
    }

    /** The draws written out again; a MOUNTAIN 0 to 3 YEARS ahead of the first one makes it redder. */
    private static void paintByHand() {
        for (int ahead = -1; ahead <= 4; ahead++) {
            int hot = ahead >= 0 && ahead <= 3 ? 1 : 0;
            RedSkies x = new RedSkies();
            long[] draws = new long[30];
            long seed = 2147483647L;
            for (int i = 0; i < draws.length; i++) {
                seed = (1103515245L * seed + 12345L) % (1L << 31);
                draws[i] = seed / 65536L;
            }
            x.mountain((int) (draws[0] % 401) - ahead);
            Due.due("paint()", x.paint(3, 2, 2147483647), 2);
            int at = 0;
            for (int number = 0; number < 2; number++) {
                Due.due("YEAR " + number, x.about(number, 2), draws[at++] % 401);
                Due.due("SPAN " + number, x.about(number, 3), draws[at++] % 4);
                int glow = number == 0 ? 15 * hot : 0;
                for (int part = 0; part < 4; part++) {
                    Due.due("red", x.about(number, 10 + 3 * part), 20 + draws[at++] % 40 + glow);
                    Due.due("green", x.about(number, 11 + 3 * part), 20 + draws[at++] % 40);
                    Due.due("blue", x.about(number, 12 + 3 * part), draws[at++] % 60);
                }
            }
            Due.due("near(0, 3)", x.near(0, 3), hot);
            Due.due("near(1, 3)", x.near(1, 3), 0);
            int red = x.about(0, 10);
            x.mountain(x.about(0, 2));
            Due.due("a MOUNTAIN after that changes nothing", x.about(0, 10), red);
        }
    }
}
