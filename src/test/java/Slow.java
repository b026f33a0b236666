import java.math.BigInteger;
import java.util.ArrayList;
import java.util.List;
import java.util.TreeMap;
import java.util.regex.Pattern;

/**
 * The document once more, by the slowest and plainest means: patterns for texts, every choice of
 * NEAR PICTURES dealt one by one, every pair compared. RandomRunsTest holds RedSkies against it.
 */
final class Slow {
    private static final int NONE = -1, UNKNOWN = -101, OUTSIDE = -102, STATE = -103, FULL = -104;
    private static final Pattern LAMP = Pattern.compile("([rgb][+-](1?[0-9]|20)){1,3}");
    private static final String TERM = "[rgb](01?2?3?|12?3?|23?|3)";
    private static final String SUM = TERM + "([+]" + TERM + "){0,3}";
    private static final Pattern MEASURE = Pattern.compile(SUM + "/" + SUM);
    private static final Pattern LAW = Pattern.compile("[1-9][0-9]{0,2}(,[1-9][0-9]{0,2}){0,4};([1-9]?[0-9])");
    /** Some end of these makes a whole text of any letters that can begin one. */
    private static final String[] ENDS = {"", "0", "+0", "r+0", "r0", "/r0", "0/r0", "r0/r0", ";0", "9;0", "99;0", "999;0"};

    private record Fraction(BigInteger above, BigInteger below) implements Comparable<Fraction> {
        static Fraction of(long above, long below) {
            BigInteger a = BigInteger.valueOf(above);
            BigInteger b = BigInteger.valueOf(below);
            BigInteger d = a.gcd(b);
            return new Fraction(a.divide(d), b.divide(d));
        }

        public int compareTo(Fraction other) {
            return above.multiply(other.below).compareTo(other.above.multiply(below));
        }

        Fraction gap(Fraction other) {
            BigInteger a = above.multiply(other.below).subtract(other.above.multiply(below)).abs();
            return new Fraction(a, below.multiply(other.below));
        }

        Fraction times(long n) {
            return of(above.longValueExact() * n, below.longValueExact());
        }

        long part(int part) {
            return (part == 0 ? above : below).longValueExact();
        }
    }

    private static final class Picture {
        int kind, hand, year, span, lamp, pigment;
        int[] seen = new int[12];

        Picture copied() {
            Picture p = new Picture();
            p.kind = kind;
            p.hand = hand;
            p.year = year;
            p.span = span;
            p.lamp = lamp;
            p.pigment = pigment;
            p.seen = seen.clone();
            return p;
        }
    }

    /** A counted PICTURE as STAT sees it. */
    private static final class Seen {
        int number, hand, value;
        boolean near;
    }

    private String page = "";
    private final List<String> lamps = new ArrayList<>();
    private final List<String> measures = new ArrayList<>();
    private final List<int[]> pigments = new ArrayList<>();
    private String law = null;
    private List<Picture> pictures = new ArrayList<>();
    private List<Integer> mountains = new ArrayList<>();
    private TreeMap<Integer, int[]> ice = new TreeMap<>();
    private List<Picture> keptPictures = null;
    private List<Integer> keptMountains = null;
    private TreeMap<Integer, int[]> keptIce = null;
    private int looks = 0;

    int letters(long w) {
        StringBuilder more = new StringBuilder();
        long rest = w;
        while (rest != 0) {
            int code = (int) (rest & 255);
            if (code == 0 || code > 126) {
                return OUTSIDE;
            }
            more.append((char) code);
            rest >>>= 8;
        }
        if (page.length() + more.length() > 40) {
            return FULL;
        }
        page += more;
        return page.length();
    }

    int blank() {
        int size = page.length();
        page = "";
        return size;
    }

    private static boolean whole(int sort, String text) {
        if (sort == 0) {
            return LAMP.matcher(text).matches() && text.indexOf('r') == text.lastIndexOf('r')
                    && text.indexOf('g') == text.lastIndexOf('g') && text.indexOf('b') == text.lastIndexOf('b');
        }
        if (sort == 1) {
            return MEASURE.matcher(text).matches();
        }
        if (!LAW.matcher(text).matches()) {
            return false;
        }
        int ahead = 0;
        for (String bound : text.substring(0, text.indexOf(';')).split(",")) {
            if (Integer.parseInt(bound) <= ahead) {
                return false;
            }
            ahead = Integer.parseInt(bound);
        }
        return true;
    }

    private static boolean canBegin(int sort, String text) {
        for (String end : ENDS) {
            if (whole(sort, text + end)) {
                return true;
            }
        }
        return false;
    }

    int fault(int sort) {
        if (sort < 0 || sort > 2) {
            return OUTSIDE;
        }
        for (int i = 0; i < page.length(); i++) {
            if (!canBegin(sort, page.substring(0, i + 1))) {
                return i;
            }
        }
        return page.length();
    }

    int lamp() {
        if (!whole(0, page)) {
            return STATE;
        }
        if (lamps.size() == 4) {
            return FULL;
        }
        lamps.add(page);
        page = "";
        return lamps.size() - 1;
    }

    int measure() {
        if (!whole(1, page)) {
            return STATE;
        }
        if (measures.size() == 4) {
            return FULL;
        }
        measures.add(page);
        page = "";
        return measures.size() - 1;
    }

    int law() {
        if (!whole(2, page)) {
            return STATE;
        }
        law = page;
        page = "";
        return bounds().length;
    }

    private int[] bounds() {
        if (law == null) {
            return new int[0];
        }
        String[] told = law.substring(0, law.indexOf(';')).split(",");
        int[] bounds = new int[told.length];
        for (int i = 0; i < told.length; i++) {
            bounds[i] = Integer.parseInt(told[i]);
        }
        return bounds;
    }

    int pigment(int since, int fade) {
        if (since < 0 || since > 400 || fade < 0 || fade > 9) {
            return OUTSIDE;
        }
        if (pigments.size() == 4) {
            return FULL;
        }
        pigments.add(new int[] {since, fade});
        return pigments.size() - 1;
    }

    int picture(int kind, int hand, int year, int span, int lamp, int pigment) {
        if (kind < 0 || kind > 4 || hand < 0 || hand > 4 || year < 0 || year > 400 || span < 0 || span > 20) {
            return OUTSIDE;
        }
        if (lamp < -1 || lamp >= lamps.size() || pigment < -1 || pigment >= pigments.size()) {
            return UNKNOWN;
        }
        if (pictures.size() == 16) {
            return FULL;
        }
        Picture p = new Picture();
        p.kind = kind;
        p.hand = hand;
        p.year = year;
        p.span = kind == 1 || kind == 2 ? 0 : span;
        p.lamp = lamp;
        p.pigment = pigment;
        pictures.add(p);
        return pictures.size() - 1;
    }

    private boolean unknown(int picture) {
        return picture < 0 || picture >= pictures.size();
    }

    private boolean unknownMeasure(int measure) {
        return measure < 0 || measure >= measures.size();
    }

    int colour(int picture, int part, int colour, int v) {
        if (unknown(picture)) {
            return UNKNOWN;
        }
        if (part < 0 || part > 3 || colour < 0 || colour > 2 || v < 0 || v > 99) {
            return OUTSIDE;
        }
        int[] seen = pictures.get(picture).seen;
        int was = seen[3 * part + colour];
        seen[3 * part + colour] = v;
        return was;
    }

    int as(int picture, int kind) {
        if (unknown(picture)) {
            return UNKNOWN;
        }
        if (kind < 0 || kind > 4) {
            return OUTSIDE;
        }
        String kinds = new String[] {"0", "01", "012", "03", "04"}[pictures.get(picture).kind];
        return kinds.contains("" + kind) ? picture : NONE;
    }

    int about(int picture, int what) {
        if (unknown(picture)) {
            return UNKNOWN;
        }
        Picture p = pictures.get(picture);
        switch (what) {
            case 0: return p.kind;
            case 1: return p.hand;
            case 2: return p.year;
            case 3: return p.span;
            case 4: return p.lamp;
            case 5: return p.pigment;
            default: return what >= 10 && what <= 21 ? putRight(p, (what - 10) / 3, (what - 10) % 3) : OUTSIDE;
        }
    }

    private int putRight(Picture p, int part, int colour) {
        int v = p.seen[3 * part + colour];
        if (p.lamp != NONE) {
            String text = lamps.get(p.lamp);
            int at = text.indexOf("rgb".charAt(colour));
            if (at >= 0) {
                String number = text.substring(at + 1).split("[rgb]")[0];
                v -= Integer.parseInt(number);
            }
        }
        v = v < 0 ? 0 : v > 99 ? 99 : v;
        if (colour == 0 && p.pigment != NONE) {
            for (int year = p.year + 50; year <= 500; year += 50) {
                v += pigments.get(p.pigment)[1];
            }
        }
        return v > 99 ? 99 : v;
    }

    private int sum(String text, Picture p) {
        int sum = 0;
        for (String term : text.split("[+]")) {
            for (int i = 1; i < term.length(); i++) {
                sum += putRight(p, term.charAt(i) - '0', "rgb".indexOf(term.charAt(0)));
            }
        }
        return sum;
    }

    private int valueOf(int measure, Picture p) {
        String[] sums = measures.get(measure).split("/");
        return (int) Math.floor(100.0 * sum(sums[0], p) / Math.max(1, sum(sums[1], p)));
    }

    int value(int measure, int picture) {
        return unknownMeasure(measure) || unknown(picture) ? UNKNOWN : valueOf(measure, pictures.get(picture));
    }

    int mountain(int year) {
        if (year < 0 || year > 400) {
            return OUTSIDE;
        }
        if (mountains.size() == 6) {
            return FULL;
        }
        mountains.add(year);
        return mountains.size() - 1;
    }

    private boolean isNear(Picture p, int w) {
        for (int year = p.year - w - (p.kind == 4 ? 5 : 0); year <= p.year; year++) {
            if (mountains.contains(year)) {
                return true;
            }
        }
        return false;
    }

    int near(int picture, int w) {
        if (unknown(picture)) {
            return UNKNOWN;
        }
        if (w < 0 || w > 9) {
            return OUTSIDE;
        }
        Picture p = pictures.get(picture);
        return p.kind == 3 ? NONE : isNear(p, w) ? 1 : 0;
    }

    private BigInteger seed;

    private int draw(int d) {
        seed = seed.multiply(BigInteger.valueOf(1103515245)).add(BigInteger.valueOf(12345))
                .mod(BigInteger.TWO.pow(31));
        return seed.divide(BigInteger.valueOf(65536)).mod(BigInteger.valueOf(d)).intValue();
    }

    int paint(int hand, int many, int from) {
        if (hand < 0 || hand > 4 || many < 1 || many > 8 || from < 0) {
            return OUTSIDE;
        }
        seed = BigInteger.valueOf(from);
        while (many-- > 0 && pictures.size() < 16) {
            int year = draw(401);
            int number = picture(0, hand, year, draw(4), NONE, NONE);
            for (int part = 0; part < 4; part++) {
                colour(number, part, 0, 20 + draw(40) + 15 * near(number, 3));
                colour(number, part, 1, 20 + draw(40));
                colour(number, part, 2, draw(60));
            }
        }
        return pictures.size();
    }

    private List<Seen> counted(int measure, int w) {
        List<Seen> all = new ArrayList<>();
        for (int i = 0; i < pictures.size(); i++) {
            Picture p = pictures.get(i);
            if (p.kind != 3) {
                Seen s = new Seen();
                s.number = i;
                s.hand = p.hand;
                s.value = valueOf(measure, p);
                s.near = isNear(p, w);
                all.add(s);
            }
        }
        return all;
    }

    private static int statOf(List<Seen> all) {
        int stat = 0;
        for (Seen one : all) {
            for (Seen other : all) {
                if (one.near && !other.near && one.hand == other.hand) {
                    stat += Integer.signum(one.value - other.value);
                }
            }
        }
        return stat;
    }

    private static int[] nearOfHands(List<Seen> all) {
        int[] many = new int[5];
        for (Seen s : all) {
            if (s.near) {
                many[s.hand]++;
            }
        }
        return many;
    }

    /** Goes through every choice; tells how many there are and how many have STAT at least so. */
    private static void deal(List<Seen> all, int from, int[] left, int least, long[] told) {
        if (from == all.size()) {
            for (int many : left) {
                if (many != 0) {
                    return;
                }
            }
            told[1]++;
            if (statOf(all) >= least) {
                told[0]++;
            }
            return;
        }
        Seen s = all.get(from);
        boolean before = s.near;
        s.near = false;
        deal(all, from + 1, left, least, told);
        if (left[s.hand] > 0) {
            s.near = true;
            left[s.hand]--;
            deal(all, from + 1, left, least, told);
            left[s.hand]++;
        }
        s.near = before;
    }

    private static Fraction oddsOf(List<Seen> all) {
        long[] told = new long[2];
        deal(all, 0, nearOfHands(all), statOf(all), told);
        return Fraction.of(told[0], told[1]);
    }

    int stat(int measure, int w) {
        if (unknownMeasure(measure)) {
            return -1001;
        }
        return w < 0 || w > 9 ? -1002 : statOf(counted(measure, w));
    }

    long odds(int measure, int w, int part) {
        if (unknownMeasure(measure)) {
            return UNKNOWN;
        }
        return w < 0 || w > 9 || part < 0 || part > 1 ? OUTSIDE : oddsOf(counted(measure, w)).part(part);
    }

    long paid(int w, int part) {
        if (w < 0 || w > 9 || part < 0 || part > 1) {
            return OUTSIDE;
        }
        if (measures.isEmpty()) {
            return STATE;
        }
        Fraction least = Fraction.of(1, 1);
        for (int measure = 0; measure < measures.size(); measure++) {
            for (int window = 0; window <= w; window++) {
                Fraction odds = oddsOf(counted(measure, window));
                least = odds.compareTo(least) < 0 ? odds : least;
            }
        }
        Fraction paid = least.times((long) measures.size() * (w + 1));
        return paid.compareTo(Fraction.of(1, 1)) > 0 ? 1 : paid.part(part);
    }

    private int refusal(int measure, int w) {
        if (unknownMeasure(measure)) {
            return UNKNOWN;
        }
        if (w < 0 || w > 9) {
            return OUTSIDE;
        }
        return looks == 30 ? STATE : 0;
    }

    int hangs(int measure, int w) {
        if (refusal(measure, w) != 0) {
            return refusal(measure, w);
        }
        looks++;
        int best = NONE;
        Fraction greatest = null;
        for (Seen s : counted(measure, w)) {
            List<Seen> others = counted(measure, w);
            others.removeIf(other -> other.number == s.number);
            Fraction odds = oddsOf(others);
            if (greatest == null || odds.compareTo(greatest) > 0) {
                greatest = odds;
                best = s.number;
            }
        }
        return best;
    }

    int next(int measure, int w) {
        if (refusal(measure, w) != 0) {
            return refusal(measure, w);
        }
        looks++;
        int best = NONE;
        Fraction greatest = null;
        List<Seen> all = counted(measure, w);
        for (Seen s : all) {
            int before = s.value;
            s.value = -5;
            Fraction low = oddsOf(all);
            s.value = 500000;
            Fraction gap = oddsOf(all).gap(low);
            s.value = before;
            if (greatest == null || gap.compareTo(greatest) > 0) {
                greatest = gap;
                best = s.number;
            }
        }
        return best;
    }

    int ice(int year, int low, int high) {
        if (year < 0 || year > 400) {
            return OUTSIDE;
        }
        if (low == NONE) {
            ice.remove(year);
            return ice.size();
        }
        if (low < 0 || low > 5 || high < low || high > 5) {
            return OUTSIDE;
        }
        if (ice.size() == 40 && !ice.containsKey(year)) {
            return FULL;
        }
        ice.put(year, new int[] {low, high});
        return ice.size();
    }

    /** The CLASSES 0 to 5 that a PICTURE may be of, as bits. */
    private int classBits(int measure, Picture p) {
        int give = Integer.parseInt(law.substring(law.indexOf(';') + 1));
        int bits = 0;
        int value = valueOf(measure, p);
        for (int v = value - give; v <= value + give; v++) {
            int reached = 0;
            for (int bound : bounds()) {
                reached += bound <= v ? 1 : 0;
            }
            bits |= 1 << reached;
        }
        return bits;
    }

    private int iceBits(int year) {
        int bits = 63;
        if (ice.containsKey(year)) {
            bits = 0;
            for (int c = ice.get(year)[0]; c <= ice.get(year)[1]; c++) {
                bits |= 1 << c;
            }
        }
        return bits;
    }

    private static int lowest(int bits) {
        return bits == 0 ? NONE : Integer.numberOfTrailingZeros(bits);
    }

    private static int highest(int bits) {
        return bits == 0 ? NONE : 31 - Integer.numberOfLeadingZeros(bits);
    }

    int classes(int measure, int picture, int end) {
        if (unknownMeasure(measure) || unknown(picture)) {
            return UNKNOWN;
        }
        if (end < 0 || end > 1) {
            return OUTSIDE;
        }
        if (law == null) {
            return STATE;
        }
        int bits = classBits(measure, pictures.get(picture));
        return end == 0 ? lowest(bits) : highest(bits);
    }

    int back(int measure, int year, int end) {
        if (unknownMeasure(measure)) {
            return UNKNOWN;
        }
        if (year < 0 || year > 400 || end < 0 || end > 1) {
            return OUTSIDE;
        }
        if (law == null) {
            return STATE;
        }
        boolean told = ice.containsKey(year);
        int bits = iceBits(year);
        for (Picture p : pictures) {
            if (p.kind != 3 && p.year == year && p.span == 0) {
                told = true;
                bits &= classBits(measure, p);
            }
        }
        if (!told) {
            return end == 0 ? 0 : bounds().length;
        }
        return end == 0 ? lowest(bits) : highest(bits);
    }

    private List<Integer> datesOf(int measure, Picture p) {
        List<Integer> dates = new ArrayList<>();
        int bits = classBits(measure, p);
        for (int year = 0; year <= 400; year++) {
            boolean bought = p.pigment == NONE || pigments.get(p.pigment)[0] <= year;
            if (Math.abs(year - p.year) <= p.span && bought && (bits & iceBits(year)) != 0) {
                dates.add(year);
            }
        }
        return dates;
    }

    int dates(int measure, int picture, int what) {
        if (unknownMeasure(measure) || unknown(picture)) {
            return UNKNOWN;
        }
        if (what < 0 || what > 2) {
            return OUTSIDE;
        }
        if (law == null) {
            return STATE;
        }
        List<Integer> dates = datesOf(measure, pictures.get(picture));
        if (what == 0) {
            return dates.size();
        }
        return dates.isEmpty() ? NONE : dates.get(what == 1 ? 0 : dates.size() - 1);
    }

    int wrong(int measure) {
        if (unknownMeasure(measure)) {
            return UNKNOWN;
        }
        if (law == null) {
            return STATE;
        }
        int bits = 0;
        for (int i = 0; i < pictures.size(); i++) {
            bits |= datesOf(measure, pictures.get(i)).isEmpty() ? 1 << i : 0;
        }
        return bits;
    }

    private static List<Picture> copied(List<Picture> from) {
        List<Picture> to = new ArrayList<>();
        for (Picture p : from) {
            to.add(p.copied());
        }
        return to;
    }

    int image() {
        keptPictures = copied(pictures);
        keptMountains = new ArrayList<>(mountains);
        keptIce = new TreeMap<>(ice);
        return pictures.size();
    }

    int restore() {
        if (keptPictures == null) {
            return STATE;
        }
        pictures = copied(keptPictures);
        mountains = new ArrayList<>(keptMountains);
        ice = new TreeMap<>(keptIce);
        return pictures.size();
    }

    int count(int what) {
        int[] counts = {lamps.size(), pigments.size(), pictures.size(), measures.size(), mountains.size(),
            bounds().length, ice.size(), page.length(), looks};
        return what < 0 || what > 8 ? OUTSIDE : counts[what];
    }

    long digest() {
        List<Long> numbers = new ArrayList<>();
        for (int[] pigment : pigments) {
            numbers.add((long) pigment[0]);
            numbers.add((long) pigment[1]);
        }
        for (int i = 0; i < pictures.size(); i++) {
            for (int what = 0; what <= 21; what++) {
                if (about(i, what) != OUTSIDE) {
                    numbers.add((long) about(i, what));
                }
            }
            numbers.add((long) near(i, 2));
            for (int measure = 0; measure < measures.size(); measure++) {
                numbers.add((long) value(measure, i));
            }
        }
        for (int year : mountains) {
            numbers.add((long) year);
        }
        for (int measure = 0; measure < measures.size(); measure++) {
            numbers.add((long) stat(measure, 2));
            numbers.add(odds(measure, 2, 0));
            numbers.add(odds(measure, 2, 1));
        }
        for (int measure = 0; measure < measures.size() && law != null; measure++) {
            numbers.add((long) wrong(measure));
        }
        for (int year : ice.keySet()) {
            numbers.add((long) year);
            numbers.add((long) ice.get(year)[0]);
            numbers.add((long) ice.get(year)[1]);
        }
        for (char letter : page.toCharArray()) {
            numbers.add((long) letter);
        }
        for (int what = 0; what <= 8; what++) {
            numbers.add((long) count(what));
        }
        long h = 421;
        for (long number : numbers) {
            h = 31 * h + number;
        }
        return h;
    }
}
