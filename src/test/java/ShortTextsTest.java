/** Every short text of a few letters: fault() and reading it as LAMP, MEASURE, LAW answer as Slow's patterns say. */
public final class ShortTextsTest {
    private static final String[] LETTERS = {"rg+-0129", "rb/+013", "019,;5"};
    private static final int[] LONGEST = {5, 5, 6};
    private static final String[] READERS = {"lamp", "measure", "law"};

    private static int texts = 0;

    public static void main(String[] args) {
        for (int sort = 0; sort < 3; sort++) {
            everyText(sort, "");
        }
        Due.due("texts looked at", texts, 37449 + 19608 + 55987);
        Due.finish();
    }

    private static void everyText(int sort, String text) {
        texts++;
        RedSkies x = new RedSkies();
        Slow slow = new Slow();
        if (!text.isEmpty()) {
            x.letters(Due.packed(text));
            slow.letters(Due.packed(text));
        }
        String call = READERS[sort] + " of " + text;
        Due.due("fault for " + call, x.fault(sort), slow.fault(sort));
        Due.due(call, read(sort, x), read(sort, slow));
        if (text.length() < LONGEST[sort]) {
            for (char letter : LETTERS[sort].toCharArray()) {
                everyText(sort, text + letter);
            }
        }
    }

    private static int read(int sort, RedSkies x) {
        return sort == 0 ? x.lamp() : sort == 1 ? x.measure() : x.law();
    }

    private static int read(int sort, Slow x) {
        return sort == 0 ? x.lamp() : sort == 1 ? x.measure() : x.law();
    }
}
