/** Promises 27 to 30: IMAGE, restore, count, digest. */
public final class ToldTest {
    public static void main(String[] args) {
        image();
        whatAnImageKeeps();
        count();
        digest();
        digestByRow();
        Due.finish();
    }

    private static void image() {
        RedSkies x = new RedSkies();
        Due.due("restore() without an IMAGE", x.restore(), Due.STATE);
        Due.due("image() of nothing", x.image(), 0);
        x.paint(0, 3, 5);
        Due.due("restore() of nothing", x.restore(), 0);
        x.paint(0, 2, 5);
        Due.due("image()", x.image(), 2);
        x.colour(1, 3, 2, 77);
        x.colour(0, 0, 0, 78);
        x.paint(0, 2, 5);
        Due.due("the latest image()", x.image(), 4);
        x.colour(1, 3, 2, 11);
        x.colour(0, 0, 0, 12);
        x.paint(0, 8, 5);
        Due.due("restore()", x.restore(), 4);
        Due.due("a COLOUR of then", x.about(1, 21), 77);
        Due.due("and of the first PICTURE", x.about(0, 10), 78);
        x.colour(1, 3, 2, 12);
        Due.due("restore() again", x.restore(), 4);
        Due.due("a COLOUR of then again", x.about(1, 21), 77);
        x.restore();
        int number = x.picture(0, 0, 0, 0, -1, -1);
        Due.due("the number behind restore()", number, 4);
        for (int what = 10; what <= 21; what++) {
            Due.due("COLOURS of a new one are 0", x.about(number, what), 0);
        }
    }

    private static void whatAnImageKeeps() {
        RedSkies x = new RedSkies();
        Due.measure(x, "r0/g0");
        x.mountain(30);
        x.ice(20, 1, 3);
        x.picture(1, 2, 31, 4, -1, -1);
        x.image();
        long kept = x.digest();
        x.mountain(31);
        x.ice(20, -1, 0);
        x.ice(21, 0, 0);
        x.ice(22, 0, 0);
        x.picture(0, 0, 0, 0, -1, -1);
        x.restore();
        Due.unchanged("restore()", x, kept);
        Due.due("the MOUNTAIN", x.count(4), 1);
        Due.due("the ICE", x.count(6), 1);
        Due.due("near(0, 1)", x.near(0, 1), 1);
        Due.lamp(x, "r+1");
        Due.measure(x, "r0/b0");
        x.pigment(5, 5);
        Due.law(x, "5,6;0");
        Due.put(x, "page");
        x.hangs(0, 0);
        Due.due("restore()", x.restore(), 1);
        int[] counts = {1, 1, 1, 2, 1, 2, 1, 4, 1};
        for (int what = 0; what <= 8; what++) {
            Due.due("count(" + what + ") behind restore()", x.count(what), counts[what]);
        }
        x.ice(20, 2, 2);
        x.ice(0, 3, 4);
        x.ice(400, 3, 4);
        x.image();
        x.ice(0, 1, 1);
        x.ice(400, 1, 1);
        x.restore();
        x.ice(20, 1, 3);
        Due.law(x, "1,2,3,4,5;0");
        x.blank();
        Due.law(x, "1,2,3,4,5;0");
        Due.due("back(0, 20, 0)", x.back(0, 20, 0), 1);
        Due.due("back(0, 20, 1)", x.back(0, 20, 1), 3);
        for (int year = 0; year <= 400; year += 400) {
            Due.due("back(0, " + year + ", 0)", x.back(0, year, 0), 3);
            Due.due("back(0, " + year + ", 1)", x.back(0, year, 1), 4);
        }
    }

    private static void count() {
        RedSkies x = new RedSkies();
        Due.lamp(x, "r+1");
        for (int i = 0; i < 2; i++) {
            x.pigment(0, 0);
        }
        for (int i = 0; i < 3; i++) {
            x.picture(0, 0, 0, 0, -1, -1);
        }
        for (int i = 0; i < 4; i++) {
            Due.measure(x, "r0/g0");
        }
        for (int i = 0; i < 5; i++) {
            x.mountain(0);
        }
        Due.due("count(5) without a LAW", x.count(5), 0);
        Due.law(x, "1,2,3,4,5;0");
        for (int i = 0; i < 6; i++) {
            x.ice(i, 0, 0);
        }
        Due.put(x, "letters");
        for (int i = 0; i < 8; i++) {
            x.next(0, 0);
        }
        int[] counts = {1, 2, 3, 4, 5, 5, 6, 7, 8};
        for (int what = 0; what <= 8; what++) {
            Due.due("count(" + what + ")", x.count(what), counts[what]);
        }
        for (int what : new int[] {-1, 9, Integer.MIN_VALUE, Integer.MAX_VALUE}) {
            Due.due("count(" + what + ")", x.count(what), Due.OUTSIDE);
        }
    }

    private static long digestOf(long... numbers) {
        long h = 421;
        for (long number : numbers) {
            h = 31 * h + number;
        }
        return h;
    }

    private static void digest() {
        RedSkies x = new RedSkies();
        x.pigment(7, 2);
        x.picture(4, 3, 400, 6, -1, 0);
        Due.measure(x, "r0/g0");
        x.colour(0, 0, 0, 9);
        x.colour(0, 3, 2, 8);
        x.mountain(11);
        x.mountain(393);
        x.ice(300, 2, 3);
        x.ice(200, 1, 4);
        Due.put(x, "ab");
        long without = digestOf(7, 2, 4, 3, 400, 6, -1, 0, 13, 0, 0, 4, 0, 0, 4, 0, 0, 4, 0, 8, 1, 1300,
                11, 393, 0, 1, 1, 200, 1, 4, 300, 2, 3, 'a', 'b', 0, 1, 1, 1, 2, 0, 2, 2, 0);
        Due.due("digest() without a LAW", x.digest(), without);
        x.blank();
        Due.law(x, "5,6;0");
        x.ice(394, 0, 0);
        long with = digestOf(7, 2, 4, 3, 400, 6, -1, 0, 13, 0, 0, 4, 0, 0, 4, 0, 0, 4, 0, 8, 1, 1300,
                11, 393, 0, 1, 1, 0, 200, 1, 4, 300, 2, 3, 394, 0, 0, 0, 1, 1, 1, 2, 2, 3, 0, 0);
        Due.due("digest() with a LAW", x.digest(), with);
        Due.due("digest() again", x.digest(), with);
        x = new RedSkies();
        Due.measure(x, "r0/g0");
        Due.law(x, "5;0");
        x.mountain(0);
        x.mountain(2);
        x.picture(1, 0, 3, 0, -1, -1);
        x.picture(1, 0, 5, 0, -1, -1);
        x.ice(5, 1, 1);
        x.ice(400, 0, 3);
        x.ice(0, 4, 5);
        long edges = digestOf(1, 0, 3, 0, -1, -1, 0, 0, 0, 0, 0, 0, 0, 0, 0, 0, 0, 0, 1, 0,
                1, 0, 5, 0, -1, -1, 0, 0, 0, 0, 0, 0, 0, 0, 0, 0, 0, 0, 0, 0,
                0, 2, 0, 1, 1, 2, 0, 4, 5, 5, 1, 1, 400, 0, 3, 0, 0, 2, 1, 2, 1, 3, 0, 0);
        Due.due("digest() of edges", x.digest(), edges);
    }

    /** Two HANDS, a COPY, two MEASURES: every number of the digest from the other calls. */
    private static void digestByRow() {
        RedSkies x = new RedSkies();
        Due.measure(x, "r0+g1/b2");
        Due.measure(x, "b3/r01");
        Due.law(x, "50,90,140;20");
        x.mountain(100);
        x.pigment(0, 3);
        x.paint(1, 4, 99);
        x.picture(0, 1, 101, 0, -1, 0);
        x.picture(2, 1, 102, 0, -1, 0);
        x.picture(3, 1, 102, 9, -1, 0);
        x.ice(101, 3, 5);
        x.ice(102, 0, 1);
        long h = digestOf(0, 3);
        for (int picture = 0; picture < 7; picture++) {
            for (int what = 0; what <= 21; what++) {
                if (what < 6 || what > 9) {
                    h = 31 * h + x.about(picture, what);
                }
            }
            h = 31 * h + x.near(picture, 2);
            h = 31 * (31 * h + x.value(0, picture)) + x.value(1, picture);
        }
        h = 31 * h + 100;
        for (int measure = 0; measure < 2; measure++) {
            h = 31 * h + x.stat(measure, 2);
            h = 31 * (31 * h + x.odds(measure, 2, 0)) + x.odds(measure, 2, 1);
        }
        h = 31 * (31 * h + x.wrong(0)) + x.wrong(1);
        for (int number : new int[] {101, 3, 5, 102, 0, 1}) {
            h = 31 * h + number;
        }
        for (int what = 0; what <= 8; what++) {
            h = 31 * h + x.count(what);
        }
        Due.due("digest() by row", x.digest(), h);
    }
}
