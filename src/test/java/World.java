import java.util.ArrayList;
import java.util.List;

/** Objects in states that edges are looked at in, and all that an object tells. At most 200 calls each. */
final class World {
    private World() {
    }

    /** A MEASURE, a MOUNTAIN, three PICTURES (one a COPY), no LAW. */
    static void some(Calls c) {
        c.read("measure", "r0/g0");
        c.call("mountain", 50);
        for (int i = 0; i < 3; i++) {
            c.call("picture", i == 2 ? 3 : 0, 0, 50 + 20 * i, i, -1, -1);
            c.call("colour", i, 0, 0, 30 - i);
        }
    }

    /** As some(), with hangs(), next() done 30 times. */
    static void lookedAt(Calls c) {
        some(c);
        for (int i = 0; i < 15; i++) {
            c.call("hangs", 0, 0);
            c.call("next", 0, 0);
        }
    }

    /** As many of all as there can be, a LAW, an IMAGE; THE PAGE holds the text (40 letters without one). */
    static void full(Calls c, String page) {
        for (String lamp : new String[] {"r+20", "r-20g+7", "b-1r+5g+0", "g-20"}) {
            c.read("lamp", lamp);
        }
        for (int i = 0; i < 4; i++) {
            c.call("pigment", 100 * i, 3 * i);
        }
        for (String measure : new String[] {"r0/g0", "r123+g0/b2", "b3/r01", "g13/b0+r2"}) {
            c.read("measure", measure);
        }
        c.read("law", "60,110,170,250,999;30");
        for (int year : new int[] {0, 60, 61, 150, 300, 400}) {
            c.call("mountain", year);
        }
        pictures(c);
        for (int i = 0; i < 40; i++) {
            c.call("ice", i < 20 ? 25 * i % 401 : 10 * i + 1, i % 6, i % 3 == 0 ? 5 : i % 6);
        }
        c.call("image");
        c.put(page == null ? "r0123+g12/b3;0123456789rgb+-/,;zyxwvutsr" : page);
    }

    private static void pictures(Calls c) {
        for (int i = 0; i < 16; i++) {
            c.call("picture", i % 5, i / 3 % 5, 25 * i, i, i % 5 - 1, (i + 2) % 5 - 1);
            c.call("colour", i, 0, 0, 7 * i % 60 + 20);
            c.call("colour", i, 0, 1, 11 * i % 50 + 10);
            c.call("colour", i, i % 4, 2, 99 - 6 * i);
        }
    }

    /** All that an object tells, the IMAGE last. */
    static List<Long> told(Calls c) {
        List<Long> told = new ArrayList<>();
        told.add(c.call("digest"));
        for (int i = 0; i < 16; i++) {
            told.add(c.call("near", i, 0));
            told.add(c.call("near", i, 9));
            told.add(c.call("classes", 0, i, 0));
            told.add(c.call("classes", 0, i, 1));
            for (int what = 0; what < 3; what++) {
                told.add(c.call("dates", 0, i, what));
            }
        }
        for (int year = 0; year <= 400; year += 50) {
            told.add(c.call("back", 0, year, 0));
            told.add(c.call("back", 0, year, 1));
        }
        for (int part = 0; part < 2; part++) {
            told.add(c.call("odds", 0, 9, part));
            told.add(c.call("paid", 9, part));
        }
        for (int sort = 0; sort < 3; sort++) {
            told.add(c.call("fault", sort));
        }
        told.add(c.call("restore"));
        told.add(c.call("digest"));
        return told;
    }
}
