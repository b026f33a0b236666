import java.util.Arrays;
import java.util.List;

/**
 * Each refusal that the document names, by promise: what it answers, which of several comes first
 * ("Refusals, of several the first as told by each call"), and that it changes nothing ("they change nothing"):
 * behind it an object tells just what a twin tells that was not asked.
 */
public final class RefusalsTest {
    private static final int NONE = Due.NONE, UNKNOWN = Due.UNKNOWN, OUTSIDE = Due.OUTSIDE;
    private static final int STATE = Due.STATE, FULL = Due.FULL;
    private static final int LEAST = Integer.MIN_VALUE, MOST = Integer.MAX_VALUE;

    private final String state;
    private final List<Long> untouched;

    private RefusalsTest(String state) {
        this.state = state;
        untouched = World.told(inState(state));
    }

    public static void main(String[] args) {
        new RefusalsTest("new").ofANewObject();
        new RefusalsTest("some").withoutALaw();
        new RefusalsTest("looked at").behindThirtyLooks();
        RefusalsTest full = new RefusalsTest("full");
        full.texts();
        full.pigmentsAndPictures();
        full.ofPictures();
        full.mountainsAndPaint();
        full.nearMountains();
        full.dust();
        full.counts();
        new RefusalsTest("r+1").refused(FULL, "lamp");
        new RefusalsTest("r0/g0").refused(FULL, "measure");
        new RefusalsTest("5;0x").unread();
        new RefusalsTest("").unread();
        Due.finish();
    }

    private static Calls inState(String state) {
        Calls c = new Calls(new RedSkies());
        switch (state) {
            case "new" -> { }
            case "some" -> World.some(c);
            case "looked at" -> World.lookedAt(c);
            case "full" -> World.full(c, null);
            default -> World.full(c, state);
        }
        return c;
    }

    private void refused(int want, String name, long... args) {
        Calls c = inState(state);
        String call = state + ": " + name + Arrays.toString(args);
        Due.due(call, c.call(name, args), want);
        Due.due(call + " changes nothing", World.told(c).equals(untouched) ? 1 : 0, 1);
    }

    /** Each call that names a PICTURE, a MEASURE, a LAMP, a PIGMENT, a LAW or an IMAGE, while there is none. */
    private void ofANewObject() {
        refused(STATE, "lamp");
        refused(STATE, "measure");
        refused(STATE, "law");
        refused(UNKNOWN, "picture", 0, 0, 0, 0, 0, NONE);
        refused(UNKNOWN, "picture", 0, 0, 0, 0, NONE, 0);
        refused(UNKNOWN, "colour", 0, 0, 0, 0);
        refused(UNKNOWN, "as", 0, 0);
        refused(UNKNOWN, "about", 0, 0);
        refused(UNKNOWN, "value", 0, 0);
        refused(UNKNOWN, "near", 0, 0);
        refused(-1001, "stat", 0, 0);
        refused(UNKNOWN, "odds", 0, 0, 0);
        refused(STATE, "paid", 0, 0);
        refused(STATE, "paid", 9, 1);
        refused(OUTSIDE, "paid", 10, 0);
        refused(OUTSIDE, "paid", 0, 2);
        refused(UNKNOWN, "hangs", 0, 0);
        refused(UNKNOWN, "next", 0, 0);
        refused(UNKNOWN, "classes", 0, 0, 0);
        refused(UNKNOWN, "back", 0, 0, 0);
        refused(UNKNOWN, "dates", 0, 0, 0);
        refused(UNKNOWN, "wrong", 0);
        refused(STATE, "restore");
    }

    /** STATE comes behind UNKNOWN and OUTSIDE. */
    private void withoutALaw() {
        for (int end = 0; end <= 1; end++) {
            refused(STATE, "classes", 0, 0, end);
            refused(STATE, "back", 0, 50, end);
        }
        for (int what = 0; what <= 2; what++) {
            refused(STATE, "dates", 0, 0, what);
        }
        refused(STATE, "wrong", 0);
        refused(OUTSIDE, "classes", 0, 0, 2);
        refused(UNKNOWN, "classes", 1, 0, 2);
        refused(UNKNOWN, "classes", 0, 3, 2);
        refused(OUTSIDE, "back", 0, 401, 0);
        refused(OUTSIDE, "back", 0, 0, 2);
        refused(UNKNOWN, "back", 1, 401, 2);
        refused(OUTSIDE, "dates", 0, 0, 3);
        refused(UNKNOWN, "dates", 0, 3, 3);
        refused(UNKNOWN, "dates", 1, 0, 3);
        refused(UNKNOWN, "wrong", 1);
        refused(STATE, "restore");
    }

    private void behindThirtyLooks() {
        for (String name : new String[] {"hangs", "next"}) {
            refused(STATE, name, 0, 0);
            refused(STATE, name, 0, 9);
            refused(OUTSIDE, name, 0, 10);
            refused(OUTSIDE, name, 0, -1);
            refused(UNKNOWN, name, 1, 0);
            refused(UNKNOWN, name, -1, 10);
        }
    }

    /** THE PAGE has 40 letters that are no text. */
    private void texts() {
        for (long w : new long[] {127, 255, -1, Long.MIN_VALUE, 'a' << 8, 'a' | 'b' << 16, 1L << 56, 127L << 56}) {
            refused(OUTSIDE, "letters", w);
        }
        refused(FULL, "letters", 'a');
        refused(FULL, "letters", Due.packed("abcdefgh"));
        for (int sort : new int[] {-1, 3, LEAST, MOST}) {
            refused(OUTSIDE, "fault", sort);
        }
        unread();
    }

    private void unread() {
        refused(STATE, "lamp");
        refused(STATE, "measure");
        refused(STATE, "law");
    }

    private void pigmentsAndPictures() {
        int[][] outside = {{-1, 0}, {401, 0}, {LEAST, 0}, {MOST, 0}, {0, -1}, {0, 10}, {0, LEAST}, {0, MOST}};
        for (int[] row : outside) {
            refused(OUTSIDE, "pigment", row[0], row[1]);
        }
        refused(FULL, "pigment", 0, 0);
        refused(FULL, "pigment", 400, 9);
        int[] beyond = {5, 5, 401, 21};
        for (int i = 0; i < 4; i++) {
            for (int v : new int[] {-1, beyond[i], LEAST, MOST}) {
                long[] args = {0, 0, 0, 0, NONE, NONE};
                args[i] = v;
                refused(OUTSIDE, "picture", args);
                args[4] = 4;
                refused(OUTSIDE, "picture", args);
            }
        }
        for (int v : new int[] {-2, 4, LEAST, MOST}) {
            refused(UNKNOWN, "picture", 0, 0, 0, 0, v, NONE);
            refused(UNKNOWN, "picture", 0, 0, 0, 0, NONE, v);
        }
        refused(FULL, "picture", 0, 0, 0, 0, NONE, NONE);
        refused(FULL, "picture", 4, 4, 400, 20, 3, 3);
    }

    private void ofPictures() {
        for (int picture : new int[] {-1, 16, LEAST, MOST}) {
            refused(UNKNOWN, "colour", picture, 0, 0, 0);
            refused(UNKNOWN, "colour", picture, 4, 3, 100);
            refused(UNKNOWN, "as", picture, 0);
            refused(UNKNOWN, "as", picture, 5);
            refused(UNKNOWN, "about", picture, 0);
            refused(UNKNOWN, "about", picture, 6);
            refused(UNKNOWN, "value", 0, picture);
            refused(UNKNOWN, "near", picture, 0);
            refused(UNKNOWN, "near", picture, 10);
        }
        for (int v : new int[] {-1, LEAST, MOST, 100}) {
            refused(OUTSIDE, "colour", 0, 0, 0, v);
            refused(OUTSIDE, "colour", 0, v == 100 ? 4 : v, 0, 0);
            refused(OUTSIDE, "colour", 0, 0, v == 100 ? 3 : v, 0);
            refused(OUTSIDE, "as", 0, v == 100 ? 5 : v);
            refused(OUTSIDE, "near", 0, v == 100 ? 10 : v);
            refused(OUTSIDE, "near", 3, v == 100 ? 10 : v);
            refused(UNKNOWN, "value", v == 100 ? 4 : v, 0);
        }
        for (int what : new int[] {-1, 6, 7, 8, 9, 22, LEAST, MOST}) {
            refused(OUTSIDE, "about", 0, what);
        }
    }

    private void mountainsAndPaint() {
        for (int year : new int[] {-1, 401, LEAST, MOST}) {
            refused(OUTSIDE, "mountain", year);
        }
        refused(FULL, "mountain", 0);
        refused(FULL, "mountain", 400);
        for (int v : new int[] {-1, LEAST, MOST, 9}) {
            refused(OUTSIDE, "paint", v == 9 ? 5 : v, 1, 0);
            refused(OUTSIDE, "paint", 0, v, 0);
        }
        refused(OUTSIDE, "paint", 0, 0, 0);
        refused(OUTSIDE, "paint", 0, 1, -1);
        refused(OUTSIDE, "paint", 0, 1, LEAST);
    }

    private void nearMountains() {
        for (int measure : new int[] {-1, 4, LEAST, MOST}) {
            refused(-1001, "stat", measure, 0);
            refused(-1001, "stat", measure, 10);
            refused(UNKNOWN, "odds", measure, 0, 0);
            refused(UNKNOWN, "odds", measure, 10, 2);
            refused(UNKNOWN, "hangs", measure, 0);
            refused(UNKNOWN, "hangs", measure, 10);
            refused(UNKNOWN, "next", measure, 0);
            refused(UNKNOWN, "next", measure, 10);
        }
        for (int w : new int[] {-1, 10, LEAST, MOST}) {
            refused(-1002, "stat", 0, w);
            refused(OUTSIDE, "odds", 0, w, 0);
            refused(OUTSIDE, "paid", w, 0);
            refused(OUTSIDE, "hangs", 0, w);
            refused(OUTSIDE, "next", 0, w);
        }
        for (int part : new int[] {-1, 2, LEAST, MOST}) {
            refused(OUTSIDE, "odds", 0, 0, part);
            refused(OUTSIDE, "paid", 0, part);
        }
    }

    /** ICE tells of 40 YEARS, not of 13. */
    private void dust() {
        for (int v : new int[] {-1, 401, LEAST, MOST}) {
            refused(OUTSIDE, "ice", v, 0, 0);
            refused(OUTSIDE, "ice", v, NONE, 0);
            refused(OUTSIDE, "back", 0, v, 0);
        }
        int[][] classes = {{-2, 0}, {6, 6}, {LEAST, 0}, {MOST, MOST}, {0, 6}, {0, -1}, {0, LEAST}, {0, MOST}, {1, 0}, {5, 4}};
        for (int[] row : classes) {
            refused(OUTSIDE, "ice", 0, row[0], row[1]);
            refused(OUTSIDE, "ice", 13, row[0], row[1]);
        }
        refused(FULL, "ice", 13, 0, 0);
        refused(FULL, "ice", 13, 5, 5);
        for (int v : new int[] {-1, LEAST, MOST, 16}) {
            int measure = v == 16 ? 4 : v;
            refused(UNKNOWN, "classes", measure, 0, 0);
            refused(UNKNOWN, "classes", 0, v, 2);
            refused(UNKNOWN, "back", measure, 401, 2);
            refused(UNKNOWN, "dates", measure, 0, 0);
            refused(UNKNOWN, "dates", 0, v, 3);
            refused(UNKNOWN, "wrong", measure);
            refused(OUTSIDE, "classes", 0, 0, v == 16 ? 2 : v);
            refused(OUTSIDE, "back", 0, 0, v == 16 ? 2 : v);
            refused(OUTSIDE, "dates", 0, 0, v == 16 ? 3 : v);
        }
    }

    private void counts() {
        for (int what : new int[] {-1, 9, LEAST, MOST}) {
            refused(OUTSIDE, "count", what);
        }
    }
}
