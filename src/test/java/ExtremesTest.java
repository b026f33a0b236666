import java.util.ArrayList;
import java.util.Arrays;
import java.util.List;

/**
 * Every call with every two of its arguments too small, at their least, at their most, too large, in objects with
 * nothing, with some, with as much as can be: each answer is Slow's, none is a throw, and both digests stay alike.
 */
public final class ExtremesTest {
    private static final long[] INTS = {Integer.MIN_VALUE, -1002, -101, -2, -1, 0, 1, 2, 3, 4, 5, 6, 8, 9, 10, 15, 16,
        20, 21, 22, 40, 99, 100, 400, 401, 65536, Integer.MAX_VALUE};
    private static final long[] LONGS = {Long.MIN_VALUE, -1, 0, 1, 'r', 126, 127, 128, 255, 256, 1L << 56, 126L << 56,
        127L << 56, 0x7E7E7E7E7E7E7E7EL, 0x7E7E7E7E7E7E7E7FL, 0x7F7E7E7E7E7E7E7EL, 0x0101010101010101L,
        0x0100010101010101L, 0x0001010101010100L, 0x313067L, 0x30672F3072L, 0x312B72L, 0x303B35L, Long.MAX_VALUE};
    private static final int FEW_CALLS = 480;

    private final String state;
    private Calls quick;
    private Calls slow;

    private ExtremesTest(String state) {
        this.state = state;
        begin();
    }

    public static void main(String[] args) {
        for (String state : new String[] {"nothing", "some", "looked at", "full"}) {
            ExtremesTest one = new ExtremesTest(state);
            for (String name : one.quick.names()) {
                one.tryOut(name);
            }
            one.end();
        }
        Due.finish();
    }

    private void begin() {
        quick = new Calls(new RedSkies());
        slow = new Calls(new Slow());
        for (Calls c : List.of(quick, slow)) {
            switch (state) {
                case "some" -> World.some(c);
                case "looked at" -> World.lookedAt(c);
                case "full" -> World.full(c, null);
                default -> { }
            }
        }
    }

    private void end() {
        Due.due(state + ": digest()", quick.call("digest"), slow.call("digest"));
    }

    private void tryOut(String name) {
        for (long[] args : argumentsOf(name)) {
            if (quick.made >= FEW_CALLS) {
                end();
                begin();
            }
            long got = quick.call(name, args);
            Due.due(state + ": " + name + Arrays.toString(args), got, slow.call(name, args));
        }
    }

    private List<long[]> argumentsOf(String name) {
        List<long[]> all = new ArrayList<>();
        int many = quick.arguments(name);
        if (quick.takesLong(name)) {
            for (long w : LONGS) {
                all.add(new long[] {w});
            }
        } else if (many < 2) {
            for (long v : many == 0 ? new long[1] : INTS) {
                all.add(many == 0 ? new long[0] : new long[] {v});
            }
        } else {
            for (int first = 0; first < many; first++) {
                for (int second = first + 1; second < many; second++) {
                    addPairs(all, many, first, second);
                }
            }
        }
        return all;
    }

    /** The other arguments are 0 or 1, that most calls take. */
    private static void addPairs(List<long[]> all, int many, int first, int second) {
        for (long one : INTS) {
            for (long other : INTS) {
                long[] args = new long[many];
                Arrays.fill(args, (one + other & 1) == 0 ? 0 : 1);
                args[first] = one;
                args[second] = other;
                all.add(args);
            }
        }
    }
}
