import java.math.BigInteger;

/** Promises 27 to 30, and of the page the sentences on 512 calls: a test for each sentence that names an edge. */
public final class ToldEdgesTest {
    private static final int NONE = Due.NONE;

    public static void main(String[] args) {
        imageOfNothing();
        imageOfSixteen();
        imageOneTheLatest();
        imageIsNotChangedBehindIt();
        imageKeepsPicturesMountainsIce();
        imageKeepsNothingElse();
        restoreWithoutAnImage();
        restoreManyTimes();
        restoreMakesRoom();
        countOfEachFromNoneToFull();
        countIsOutside();
        digestOfNothing();
        digestWraps();
        digestOfEachThing();
        digestWithALawOnly();
        digestByAWindowOfTwo();
        digestOfIceInOrderOfYears();
        digestOfAFullObject();
        fiveHundredAndTwelveCalls();
        Due.finish();
    }

    private static RedSkies ofPictures(int many) {
        RedSkies x = new RedSkies();
        for (int i = 0; i < many; i++) {
            x.picture(0, 0, i, 0, NONE, NONE);
        }
        return x;
    }

    /** Promise 27: "how many PICTURES": none. */
    private static void imageOfNothing() {
        RedSkies x = new RedSkies();
        Due.due("image() of nothing", x.image(), 0);
        World.some(new Calls(x));
        x.ice(7, 1, 1);
        Due.due("restore() of nothing", x.restore(), 0);
        Due.due("PICTURES", x.count(2), 0);
        Due.due("MOUNTAINS", x.count(4), 0);
        Due.due("YEARS of ICE", x.count(6), 0);
        Due.due("MEASURES", x.count(3), 1);
    }

    /** Promise 27: "how many PICTURES": as many as there can be. */
    private static void imageOfSixteen() {
        for (int many = 0; many <= 16; many++) {
            RedSkies x = ofPictures(many);
            Due.due("image() of " + many, x.image(), many);
            x.paint(0, 8, 1);
            Due.due("restore() of " + many, x.restore(), many);
            Due.due("the first one beyond", x.about(many, 0), Due.UNKNOWN);
            Due.due("the last one", x.about(many - 1, 2), many == 0 ? Due.UNKNOWN : many - 1);
        }
    }

    /** Promise 27: "An IMAGE is kept (one; the latest)" */
    private static void imageOneTheLatest() {
        RedSkies x = ofPictures(2);
        x.colour(0, 0, 0, 1);
        x.image();
        x.colour(0, 0, 0, 2);
        x.mountain(1);
        x.image();
        x.colour(0, 0, 0, 3);
        x.mountain(2);
        Due.due("restore()", x.restore(), 2);
        Due.due("red of the latest", x.about(0, 10), 2);
        Due.due("MOUNTAINS of the latest", x.count(4), 1);
        Due.due("restore() again", x.restore(), 2);
        Due.due("not the one ahead", x.about(0, 10), 2);
    }

    /** Promise 27: Neither what is told behind image() nor behind restore() comes into the IMAGE. */
    private static void imageIsNotChangedBehindIt() {
        RedSkies x = new RedSkies();
        Due.measure(x, "r0/g0");
        Due.law(x, "9;0");
        x.ice(0, 2, 3);
        x.ice(400, 4, 5);
        for (int i = 0; i < 16; i++) {
            x.picture(0, 0, 10, 0, NONE, NONE);
            x.colour(i, 3, 2, i);
        }
        x.image();
        for (int round = 0; round < 3; round++) {
            for (int i = 0; i < 16; i++) {
                Due.due("the last blue of " + i, x.colour(i, 3, 2, 90), i);
            }
            x.mountain(10);
            x.ice(0, 0, 0);
            x.ice(400, round == 0 ? NONE : round, 3);
            x.ice(1, 0, 0);
            x.restore();
            Due.due("MOUNTAINS", x.count(4), 0);
            Due.due("near(0, 9)", x.near(0, 9), 0);
            Due.due("YEARS of ICE", x.count(6), 2);
            Due.due("ICE of 0", 10 * x.back(0, 0, 0) + x.back(0, 0, 1), 23);
            Due.due("ICE of 400", 10 * x.back(0, 400, 0) + x.back(0, 400, 1), 45);
            Due.due("ICE of 1", 10 * x.back(0, 1, 0) + x.back(0, 1, 1), 1);
        }
    }

    /** Promises 27, 28: "An IMAGE keeps PICTURES, MOUNTAINS, ICE" */
    private static void imageKeepsPicturesMountainsIce() {
        Calls kept = new Calls(new RedSkies());
        World.full(kept, null);
        Calls twin = new Calls(new RedSkies());
        World.full(twin, null);
        for (int i = 0; i < 16; i++) {
            kept.call("colour", i, i % 4, i % 3, 98);
        }
        for (int i = 0; i < 40; i++) {
            kept.call("ice", i < 20 ? 25 * i % 401 : 10 * i + 1, NONE, 0);
        }
        Due.due("no ICE", kept.call("count", 6), 0);
        Due.due("another digest", kept.call("digest") == twin.call("digest") ? 1 : 0, 0);
        Due.due("restore()", kept.call("restore"), 16);
        Due.due("all as it was", World.told(kept).equals(World.told(twin)) ? 1 : 0, 1);
    }

    /** Promises 27, 28: LAMPS, PIGMENTS, MEASURES, THE LAW, THE PAGE and looks go on. */
    private static void imageKeepsNothingElse() {
        RedSkies x = ofPictures(1);
        x.image();
        Due.lamp(x, "r-1g-2b-3");
        x.pigment(7, 8);
        Due.measure(x, "r0/g0");
        Due.law(x, "5;0");
        x.hangs(0, 0);
        Due.put(x, "abc");
        x.restore();
        int[] counts = {1, 1, 1, 1, 0, 1, 0, 3, 1};
        for (int what = 0; what <= 8; what++) {
            Due.due("count(" + what + ") behind restore()", x.count(what), counts[what]);
        }
        Due.due("a PICTURE under the LAMP", x.picture(0, 0, 400, 0, 0, 0), 1);
        Due.due("its red", x.about(1, 10), 17);
        Due.due("its blue", x.about(1, 12), 3);
        Due.due("by the MEASURE", x.value(0, 1), 850);
        Due.due("by THE LAW", x.classes(0, 1, 0), 1);
        x.letters('d');
        Due.due("THE PAGE", x.blank(), 4);
    }

    /** Promise 28: "STATE: none was kept" */
    private static void restoreWithoutAnImage() {
        RedSkies x = new RedSkies();
        Due.due("restore() of a new object", x.restore(), Due.STATE);
        World.some(new Calls(x));
        long digest = x.digest();
        Due.due("restore() of some", x.restore(), Due.STATE);
        Due.unchanged("restore() of some", x, digest);
        x.image();
        Due.due("restore() behind image()", x.restore(), 3);
    }

    /** Promise 28: The IMAGE stays when it was gone on from. */
    private static void restoreManyTimes() {
        RedSkies x = ofPictures(3);
        x.image();
        for (int i = 0; i < 20; i++) {
            x.paint(0, 1 + i % 8, i);
            Due.due("restore() " + i, x.restore(), 3);
        }
    }

    /** Promise 28: What restore() takes away can be told anew. */
    private static void restoreMakesRoom() {
        RedSkies x = new RedSkies();
        x.image();
        for (int round = 0; round < 3; round++) {
            for (int i = 0; i < 16; i++) {
                Due.due("PICTURE " + i, x.picture(0, 0, 0, 0, NONE, NONE), i);
            }
            for (int i = 0; i < 6; i++) {
                Due.due("MOUNTAIN " + i, x.mountain(i), i);
            }
            for (int i = 0; i < 40; i++) {
                Due.due("ICE " + i, x.ice(i + 40 * round, 0, 0), i + 1);
            }
            Due.due("a seventeenth", x.picture(0, 0, 0, 0, NONE, NONE), Due.FULL);
            Due.due("a seventh", x.mountain(0), Due.FULL);
            Due.due("a forty-first", x.ice(400, 0, 0), Due.FULL);
            Due.due("restore()", x.restore(), 0);
        }
    }

    /** Promise 29: "How many: 0 LAMPS .. 8 how often hangs(), next() were done" */
    private static void countOfEachFromNoneToFull() {
        Calls none = new Calls(new RedSkies());
        Calls some = new Calls(new RedSkies());
        World.lookedAt(some);
        Calls full = new Calls(new RedSkies());
        World.full(full, null);
        int[] ofSome = {0, 0, 3, 1, 1, 0, 0, 0, 30};
        int[] ofFull = {4, 4, 16, 4, 6, 5, 40, 40, 0};
        for (int what = 0; what <= 8; what++) {
            Due.due("count(" + what + ") of none", none.call("count", what), 0);
            Due.due("count(" + what + ") of some", some.call("count", what), ofSome[what]);
            Due.due("count(" + what + ") of a full one", full.call("count", what), ofFull[what]);
        }
    }

    /** Promise 29: "OUTSIDE" */
    private static void countIsOutside() {
        for (int what = -20; what <= 30; what++) {
            Due.due("count(" + what + ")", new RedSkies().count(what), what < 0 || what > 8 ? Due.OUTSIDE : 0);
        }
    }

    private static long mixed(long h, long... numbers) {
        for (long number : numbers) {
            h = 31 * h + number;
        }
        return h;
    }

    /** Promise 30: "h is 421, then for each of these numbers": the counts of nothing. */
    private static void digestOfNothing() {
        Due.due("digest() of nothing", new RedSkies().digest(), mixed(421, 0, 0, 0, 0, 0, 0, 0, 0, 0));
    }

    /** Promise 30: "(as longs, wrapping)": 40 letters and 9 counts go far beyond 64 bits. */
    private static void digestWraps() {
        RedSkies x = new RedSkies();
        Due.put(x, "zzzzzzzzzzzzzzzzzzzzzzzzzzzzzzzzzzzzzzzz");
        BigInteger h = BigInteger.valueOf(421);
        for (int i = 0; i < 49; i++) {
            h = h.multiply(BigInteger.valueOf(31)).add(BigInteger.valueOf(i < 40 ? 'z' : i == 47 ? 40 : 0));
        }
        Due.due("it wraps", h.bitLength() > 64 ? 1 : 0, 1);
        Due.due("digest() wrapped", x.digest(), h.longValue());
    }

    /** Promise 30: Each thing told changes it as the sentence says. */
    private static void digestOfEachThing() {
        RedSkies x = new RedSkies();
        x.mountain(400);
        Due.due("a MOUNTAIN", x.digest(), mixed(421, 400, 0, 0, 0, 0, 1, 0, 0, 0, 0));
        x = new RedSkies();
        x.pigment(400, 9);
        Due.due("a PIGMENT", x.digest(), mixed(421, 400, 9, 0, 1, 0, 0, 0, 0, 0, 0, 0));
        x = new RedSkies();
        x.letters(126);
        Due.due("a letter", x.digest(), mixed(421, 126, 0, 0, 0, 0, 0, 0, 0, 1, 0));
        x = new RedSkies();
        Due.lamp(x, "r+1");
        Due.due("a LAMP", x.digest(), mixed(421, 1, 0, 0, 0, 0, 0, 0, 0, 0));
        x = new RedSkies();
        Due.measure(x, "r0/g0");
        Due.due("a MEASURE: STAT 0, ODDS 1 by 1", x.digest(), mixed(421, 0, 1, 1, 0, 0, 0, 1, 0, 0, 0, 0, 0));
        x.next(0, 0);
        Due.due("a look", x.digest(), mixed(421, 0, 1, 1, 0, 0, 0, 1, 0, 0, 0, 0, 1));
        x = new RedSkies();
        x.picture(3, 4, 400, 20, NONE, NONE);
        Due.due("a COPY", x.digest(),
                mixed(421, 3, 4, 400, 20, NONE, NONE, 0, 0, 0, 0, 0, 0, 0, 0, 0, 0, 0, 0, NONE, 0, 0, 1, 0, 0, 0, 0, 0, 0));
    }

    /** Promise 30: "with a LAW (all up to the next semicolon) what wrong() tells by each MEASURE" */
    private static void digestWithALawOnly() {
        RedSkies x = new RedSkies();
        Due.law(x, "1,2,3;0");
        Due.due("a LAW without MEASURES", x.digest(), mixed(421, 0, 0, 0, 0, 0, 3, 0, 0, 0));
        Due.measure(x, "r0/g0");
        Due.measure(x, "r0/g0");
        Due.due("a LAW, two MEASURES", x.digest(), mixed(421, 0, 1, 1, 0, 1, 1, 0, 0, 0, 0, 0, 2, 0, 3, 0, 0, 0));
        x = new RedSkies();
        Due.measure(x, "r0/g0");
        Due.measure(x, "g0/r0");
        Due.law(x, "100;0");
        x.ice(5, 0, 0);
        Due.red(x, 0, 5, 1);
        Due.due("one is WRONG by one MEASURE", x.digest(), mixed(421, 0, 0, 5, 0, NONE, NONE, 1, 0, 0, 0, 0, 0, 0, 0, 0, 0, 0,
                0, 0, 100, 0, 0, 1, 1, 0, 1, 1, 1, 0, 5, 0, 0, 0, 0, 1, 2, 0, 1, 1, 0, 0));
        x = new RedSkies();
        Due.measure(x, "r0/g0");
        x.ice(5, 1, 2);
        Due.due("ICE without a LAW", x.digest(), mixed(421, 0, 1, 1, 5, 1, 2, 0, 0, 0, 1, 0, 0, 1, 0, 0));
    }

    /** Promise 30: "what near() tells by a WINDOW of 2"; "STAT, ODDS (above, below) by a WINDOW of 2" */
    private static void digestByAWindowOfTwo() {
        for (int ahead = 0; ahead <= 4; ahead++) {
            RedSkies x = new RedSkies();
            Due.measure(x, "r0/g0");
            x.mountain(100);
            Due.red(x, 0, 100 + ahead, 2);
            Due.red(x, 0, 90, 1);
            long near = ahead <= 2 ? 1 : 0;
            long h = mixed(421, 0, 0, 100 + ahead, 0, NONE, NONE, 2, 0, 0, 0, 0, 0, 0, 0, 0, 0, 0, 0, near, 200);
            h = mixed(h, 0, 0, 90, 0, NONE, NONE, 1, 0, 0, 0, 0, 0, 0, 0, 0, 0, 0, 0, 0, 100);
            h = mixed(h, 100, near, 1, 1 + near, 0, 0, 2, 1, 1, 0, 0, 0, 0);
            Due.due("digest() " + ahead + " YEARS behind a MOUNTAIN", x.digest(), h);
        }
    }

    /** Promise 30: "of each YEAR of which ICE tells, in order of YEARS, it, low, high" */
    private static void digestOfIceInOrderOfYears() {
        RedSkies x = new RedSkies();
        x.ice(400, 5, 5);
        x.ice(200, 1, 1);
        x.ice(0, 0, 3);
        x.ice(1, 2, 4);
        x.ice(200, NONE, 0);
        Due.due("ICE in order", x.digest(), mixed(421, 0, 0, 3, 1, 2, 4, 400, 5, 5, 0, 0, 0, 0, 0, 0, 3, 0, 0));
    }

    /** Promise 30: The digest of an object at its most, from what its other calls tell. */
    private static void digestOfAFullObject() {
        String page = "r0123+r0123+r0123+r0123/r0123+r0123+r012";
        RedSkies x = new RedSkies();
        World.full(new Calls(x), page);
        RedSkies twin = new RedSkies();
        World.full(new Calls(twin), page);
        long h = mixed(421, 0, 0, 100, 3, 200, 6, 300, 9);
        for (int i = 0; i < 16; i++) {
            for (int what = 0; what <= 21; what++) {
                h = what >= 6 && what <= 9 ? h : mixed(h, twin.about(i, what));
            }
            h = mixed(h, x.near(i, 2), x.value(0, i), x.value(1, i), x.value(2, i), x.value(3, i));
        }
        h = mixed(h, 0, 60, 61, 150, 300, 400);
        for (int measure = 0; measure < 4; measure++) {
            h = mixed(h, x.stat(measure, 2), x.odds(measure, 2, 0), x.odds(measure, 2, 1));
        }
        h = mixed(h, x.wrong(0), x.wrong(1), x.wrong(2), x.wrong(3));
        for (int year = 0; year <= 400; year++) {
            for (int i = 0; i < 40; i++) {
                if (year == (i < 20 ? 25 * i % 401 : 10 * i + 1)) {
                    h = mixed(h, year, i % 6, i % 3 == 0 ? 5 : i % 6);
                }
            }
        }
        for (char letter : page.toCharArray()) {
            h = mixed(h, letter);
        }
        Due.due("digest() of a full object", x.digest(), mixed(h, 4, 4, 16, 4, 6, 5, 40, 40, 0));
    }

    /** "An object is used for at most 512 calls": the last of them answers as it should. */
    private static void fiveHundredAndTwelveCalls() {
        Calls c = new Calls(new RedSkies());
        World.full(c, null);
        long digest = c.call("digest");
        while (c.made < 512) {
            Due.due("digest() of a full object, call " + c.made, c.call("digest"), digest);
        }
    }
}
