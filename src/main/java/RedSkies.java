import java.util.Arrays;

/** Pictures of red skies beside mountains that went off and dust in ice. */
public final class RedSkies {
    public static final int NONE = -1, UNKNOWN = -101, OUTSIDE = -102, STATE = -103, FULL = -104;

    private static final int UNKNOWN_TO_STAT = -1001, OUTSIDE_TO_STAT = -1002;
    private static final int LAST_YEAR = 400, LOOKED_AT = 500, FADING = 50;
    private static final int PARTS = 4, COLOURS = 3, CELLS = PARTS * COLOURS;
    private static final int RED = 0, GREEN = 1, BLUE = 2;
    private static final int BRIGHTEST = 99;
    private static final int PLAIN = 0, STUDY = 1, WINDOW = 2, COPY = 3, MEMORY = 4;
    private static final int KIND = 0, HAND = 1, YEAR = 2, SPAN = 3, LAMP = 4, PIGMENT = 5, FACTS = 6;
    private static final int FIRST_CELL = 10;
    private static final int LAST_HAND = 4, LAST_SPAN = 20, LAST_FADE = 9, LAST_WINDOW = 9;
    private static final int LAST_CLASS = 5;
    private static final int MOST_LETTERS = 40, MOST_PICTURES = 16, MOST_MOUNTAINS = 6, MOST_ICE = 40;
    private static final int MOST_LAMPS = 4, MOST_PIGMENTS = 4, MOST_MEASURES = 4, MOST_BOUNDS = 5;
    private static final int MOST_PAINTED = 8, MOST_LOOKS = 30;
    private static final int GREATEST_BOUND = 999;
    private static final int PAINTERS_WINDOW = 3, DIGESTS_WINDOW = 2;
    // VALUES are 0 to 158400, so that these two lie below and above all of them.
    private static final int BELOW_ALL = -1, ABOVE_ALL = 1000000;

    private final Page page = new Page();
    private final LampReader lampReader = new LampReader();
    private final MeasureReader measureReader = new MeasureReader();
    private final LawReader lawReader = new LawReader();
    private final int[][] lamps = new int[MOST_LAMPS][COLOURS];
    private final int[] sinces = new int[MOST_PIGMENTS];
    private final int[] fades = new int[MOST_PIGMENTS];
    private final int[][] measures = new int[MOST_MEASURES][2 * CELLS];
    private final Law law = new Law();
    private final Show show = new Show();
    private final Show kept = new Show();
    private final Dealing dealing = new Dealing();
    private final Painter painter = new Painter();
    private int lampCount;
    private int pigmentCount;
    private int measureCount;
    private int looks;
    private boolean hasKept;

    public RedSkies() {
    }

    // ---- texts

    public int letters(long w) {
        int more = Page.lettersIn(w);
        if (more == NONE) {
            return OUTSIDE;
        }
        if (page.size + more > MOST_LETTERS) {
            return FULL;
        }
        page.append(w, more);
        return page.size;
    }

    public int blank() {
        int size = page.size;
        page.size = 0;
        return size;
    }

    public int fault(int sort) {
        switch (sort) {
            case 0:
                return page.standing(lampReader);
            case 1:
                return page.standing(measureReader);
            case 2:
                return page.standing(lawReader);
            default:
                return OUTSIDE;
        }
    }

    public int lamp() {
        if (!page.isWhole(lampReader)) {
            return STATE;
        }
        if (lampCount >= MOST_LAMPS) {
            return FULL;
        }
        System.arraycopy(lampReader.more, 0, lamps[lampCount], 0, COLOURS);
        page.size = 0;
        lampCount++;
        return lampCount - 1;
    }

    public int measure() {
        if (!page.isWhole(measureReader)) {
            return STATE;
        }
        if (measureCount >= MOST_MEASURES) {
            return FULL;
        }
        System.arraycopy(measureReader.times, 0, measures[measureCount], 0, 2 * CELLS);
        page.size = 0;
        measureCount++;
        return measureCount - 1;
    }

    public int law() {
        if (!page.isWhole(lawReader)) {
            return STATE;
        }
        law.takeFrom(lawReader);
        page.size = 0;
        return law.size;
    }

    // ---- pictures

    public int pigment(int since, int fade) {
        if (!isWithin(since, LAST_YEAR) || !isWithin(fade, LAST_FADE)) {
            return OUTSIDE;
        }
        if (pigmentCount >= MOST_PIGMENTS) {
            return FULL;
        }
        sinces[pigmentCount] = since;
        fades[pigmentCount] = fade;
        pigmentCount++;
        return pigmentCount - 1;
    }

    public int picture(int kind, int hand, int year, int span, int lamp, int pigment) {
        if (!isWithin(kind, MEMORY) || !isWithin(hand, LAST_HAND)) {
            return OUTSIDE;
        }
        if (!isWithin(year, LAST_YEAR) || !isWithin(span, LAST_SPAN)) {
            return OUTSIDE;
        }
        if (lamp != NONE && !isLamp(lamp)) {
            return UNKNOWN;
        }
        if (pigment != NONE && !isPigment(pigment)) {
            return UNKNOWN;
        }
        return show.hang(kind, hand, year, span, lamp, pigment);
    }

    public int colour(int picture, int part, int colour, int v) {
        if (!show.has(picture)) {
            return UNKNOWN;
        }
        if (!isWithin(part, PARTS - 1) || !isWithin(colour, COLOURS - 1) || !isWithin(v, BRIGHTEST)) {
            return OUTSIDE;
        }
        int cell = part * COLOURS + colour;
        int before = show.seen[picture][cell];
        show.seen[picture][cell] = v;
        return before;
    }

    public int as(int picture, int kind) {
        if (!show.has(picture)) {
            return UNKNOWN;
        }
        if (!isWithin(kind, MEMORY)) {
            return OUTSIDE;
        }
        return isOfKind(show.facts[picture][KIND], kind) ? picture : NONE;
    }

    public int about(int picture, int what) {
        if (!show.has(picture)) {
            return UNKNOWN;
        }
        if (isWithin(what, FACTS - 1)) {
            return show.facts[picture][what];
        }
        if (what < FIRST_CELL || what >= FIRST_CELL + CELLS) {
            return OUTSIDE;
        }
        return putRight(picture, what - FIRST_CELL);
    }

    public int value(int measure, int picture) {
        if (!isMeasure(measure) || !show.has(picture)) {
            return UNKNOWN;
        }
        return valueOf(measure, picture);
    }

    public int mountain(int year) {
        if (!isWithin(year, LAST_YEAR)) {
            return OUTSIDE;
        }
        if (show.mountains >= MOST_MOUNTAINS) {
            return FULL;
        }
        show.eruptions[show.mountains] = year;
        show.mountains++;
        return show.mountains - 1;
    }

    public int near(int picture, int w) {
        if (!show.has(picture)) {
            return UNKNOWN;
        }
        if (!isWithin(w, LAST_WINDOW)) {
            return OUTSIDE;
        }
        return nearness(picture, w);
    }

    public int paint(int hand, int many, int seed) {
        if (!isWithin(hand, LAST_HAND) || many < 1 || many > MOST_PAINTED || seed < 0) {
            return OUTSIDE;
        }
        painter.seed = seed;
        for (int i = 0; i < many; i++) {
            painter.paintOne(show, hand);
        }
        return show.pictures;
    }

    // ---- near mountains or not

    public int stat(int measure, int w) {
        if (!isMeasure(measure)) {
            return UNKNOWN_TO_STAT;
        }
        if (!isWithin(w, LAST_WINDOW)) {
            return OUTSIDE_TO_STAT;
        }
        layOut(measure);
        return dealing.pairs(show.counted(), show.nearOnes(w));
    }

    public long odds(int measure, int w, int part) {
        if (!isMeasure(measure)) {
            return UNKNOWN;
        }
        if (!isWithin(w, LAST_WINDOW) || !isWithin(part, 1)) {
            return OUTSIDE;
        }
        layOut(measure);
        dealing.deal(show.counted(), show.nearOnes(w));
        return inLowestTerms(dealing.above, dealing.below, part);
    }

    public long paid(int w, int part) {
        if (!isWithin(w, LAST_WINDOW) || !isWithin(part, 1)) {
            return OUTSIDE;
        }
        if (measureCount == 0) {
            return STATE;
        }
        dealing.forgetLeast();
        for (int measure = 0; measure < measureCount; measure++) {
            dealByWindows(measure, w);
        }
        long above = dealing.leastAbove * measureCount * (w + 1);
        return above >= dealing.leastBelow ? 1 : inLowestTerms(above, dealing.leastBelow, part);
    }

    public int hangs(int measure, int w) {
        int refusal = refusalToLook(measure, w);
        if (refusal != 0) {
            return refusal;
        }
        looks++;
        layOut(measure);
        return dealing.heaviest(show.counted(), show.nearOnes(w));
    }

    public int next(int measure, int w) {
        int refusal = refusalToLook(measure, w);
        if (refusal != 0) {
            return refusal;
        }
        looks++;
        layOut(measure);
        return dealing.mostOpen(show.counted(), show.nearOnes(w));
    }

    // ---- dust

    public int ice(int year, int low, int high) {
        if (!isWithin(year, LAST_YEAR)) {
            return OUTSIDE;
        }
        if (low == NONE) {
            show.forgetIce(year);
            return show.told;
        }
        if (!isWithin(low, LAST_CLASS) || !isWithin(high, LAST_CLASS) || high < low) {
            return OUTSIDE;
        }
        if (show.lows[year] == NONE && show.told >= MOST_ICE) {
            return FULL;
        }
        show.tellIce(year, low, high);
        return show.told;
    }

    public int classes(int measure, int picture, int end) {
        if (!isMeasure(measure) || !show.has(picture)) {
            return UNKNOWN;
        }
        if (!isWithin(end, 1)) {
            return OUTSIDE;
        }
        if (law.size == 0) {
            return STATE;
        }
        int value = valueOf(measure, picture);
        return end == 0 ? law.lowest(value) : law.highest(value);
    }

    public int back(int measure, int year, int end) {
        if (!isMeasure(measure)) {
            return UNKNOWN;
        }
        if (!isWithin(year, LAST_YEAR) || !isWithin(end, 1)) {
            return OUTSIDE;
        }
        if (law.size == 0) {
            return STATE;
        }
        // ICE may tell of CLASSES beyond those of THE LAW, which stand in only where nothing tells.
        boolean isIceTold = show.lows[year] != NONE;
        int low = isIceTold ? show.lows[year] : 0;
        int high = isIceTold ? show.highs[year] : law.size;
        for (int picture = 0; picture < show.pictures; picture++) {
            if (show.isOfJust(picture, year)) {
                int value = valueOf(measure, picture);
                low = Math.max(low, law.lowest(value));
                high = Math.min(high, law.highest(value));
            }
        }
        if (low > high) {
            return NONE;
        }
        return end == 0 ? low : high;
    }

    public int dates(int measure, int picture, int what) {
        if (!isMeasure(measure) || !show.has(picture)) {
            return UNKNOWN;
        }
        if (!isWithin(what, 2)) {
            return OUTSIDE;
        }
        if (law.size == 0) {
            return STATE;
        }
        return datesOf(measure, picture, what);
    }

    public int wrong(int measure) {
        if (!isMeasure(measure)) {
            return UNKNOWN;
        }
        if (law.size == 0) {
            return STATE;
        }
        return dateless(measure);
    }

    // ---- what is told

    public int image() {
        kept.takeFrom(show);
        hasKept = true;
        return show.pictures;
    }

    public int restore() {
        if (!hasKept) {
            return STATE;
        }
        show.takeFrom(kept);
        return show.pictures;
    }

    public int count(int what) {
        return isWithin(what, 8) ? howMany(what) : OUTSIDE;
    }

    public long digest() {
        long h = 421;
        for (int i = 0; i < pigmentCount; i++) {
            h = mixed(mixed(h, sinces[i]), fades[i]);
        }
        h = withPictures(h);
        for (int i = 0; i < show.mountains; i++) {
            h = mixed(h, show.eruptions[i]);
        }
        h = withMeasures(h);
        h = withIce(h);
        for (int i = 0; i < page.size; i++) {
            h = mixed(h, page.codes[i]);
        }
        for (int what = 0; what <= 8; what++) {
            h = mixed(h, howMany(what));
        }
        return h;
    }

    private static boolean isWithin(int v, int last) {
        return v >= 0 && v <= last;
    }

    private boolean isLamp(int lamp) {
        return lamp >= 0 && lamp < lampCount;
    }

    private boolean isPigment(int pigment) {
        return pigment >= 0 && pigment < pigmentCount;
    }

    private boolean isMeasure(int measure) {
        return measure >= 0 && measure < measureCount;
    }

    private static boolean isOfKind(int kind, int wanted) {
        return wanted == PLAIN || wanted == kind || (wanted == STUDY && kind == WINDOW);
    }

    private int putRight(int picture, int cell) {
        int colour = cell % COLOURS;
        int right = show.seen[picture][cell];
        int lamp = show.facts[picture][LAMP];
        if (isLamp(lamp)) {
            right = Math.max(0, Math.min(BRIGHTEST, right - lamps[lamp][colour]));
        }
        int pigment = show.facts[picture][PIGMENT];
        if (colour == RED && isPigment(pigment)) {
            int lost = fades[pigment] * ((LOOKED_AT - show.facts[picture][YEAR]) / FADING);
            right = Math.min(BRIGHTEST, right + lost);
        }
        return right;
    }

    private int valueOf(int measure, int picture) {
        int[] times = measures[measure];
        int first = 0;
        int second = 0;
        for (int cell = 0; cell < CELLS; cell++) {
            if (times[cell] != 0 || times[CELLS + cell] != 0) {
                int right = putRight(picture, cell);
                first += times[cell] * right;
                second += times[CELLS + cell] * right;
            }
        }
        if (second < 1) {
            second = 1;
        }
        return 100 * first / second;
    }

    private int nearness(int picture, int w) {
        if (!show.isCounted(picture)) {
            return NONE;
        }
        return show.isNear(picture, w) ? 1 : 0;
    }

    private void layOut(int measure) {
        for (int picture = 0; picture < show.pictures; picture++) {
            dealing.hands[picture] = show.facts[picture][HAND];
            dealing.values[picture] = valueOf(measure, picture);
        }
    }

    private void dealByWindows(int measure, int w) {
        layOut(measure);
        int counted = show.counted();
        int dealt = NONE;
        for (int window = 0; window <= w; window++) {
            int nearOnes = show.nearOnes(window);
            // A wider WINDOW often has the same PICTURES in it, and so the same ODDS.
            if (nearOnes != dealt) {
                dealing.deal(counted, nearOnes);
                dealing.keepLeast();
                dealt = nearOnes;
            }
        }
    }

    private int refusalToLook(int measure, int w) {
        if (!isMeasure(measure)) {
            return UNKNOWN;
        }
        if (!isWithin(w, LAST_WINDOW)) {
            return OUTSIDE;
        }
        return looks >= MOST_LOOKS ? STATE : 0;
    }

    private static long inLowestTerms(long above, long below, int part) {
        long divisor = above;
        long rest = below;
        // Euclid's steps for numbers of this size are fewer than a long has bits.
        for (int step = 0; step < 64 && rest != 0; step++) {
            long next = divisor % rest;
            divisor = rest;
            rest = next;
        }
        long told = part == 0 ? above : below;
        return divisor == 0 ? told : told / divisor;
    }

    private int datesOf(int measure, int picture, int what) {
        int[] facts = show.facts[picture];
        int from = Math.max(0, facts[YEAR] - facts[SPAN]);
        int to = Math.min(LAST_YEAR, facts[YEAR] + facts[SPAN]);
        if (isPigment(facts[PIGMENT])) {
            from = Math.max(from, sinces[facts[PIGMENT]]);
        }
        int value = valueOf(measure, picture);
        int low = law.lowest(value);
        int high = law.highest(value);
        int many = 0;
        int first = NONE;
        int last = NONE;
        for (int year = from; year <= to; year++) {
            if (show.iceAllows(year, low, high)) {
                many++;
                first = first == NONE ? year : first;
                last = year;
            }
        }
        if (what == 0) {
            return many;
        }
        return what == 1 ? first : last;
    }

    private int dateless(int measure) {
        int bits = 0;
        for (int picture = 0; picture < show.pictures; picture++) {
            if (datesOf(measure, picture, 0) == 0) {
                bits |= 1 << picture;
            }
        }
        return bits;
    }

    private int howMany(int what) {
        switch (what) {
            case 0:
                return lampCount;
            case 1:
                return pigmentCount;
            case 2:
                return show.pictures;
            case 3:
                return measureCount;
            case 4:
                return show.mountains;
            case 5:
                return law.size;
            case 6:
                return show.told;
            case 7:
                return page.size;
            default:
                return looks;
        }
    }

    private static long mixed(long h, long number) {
        return 31 * h + number;
    }

    private long withPictures(long before) {
        long h = before;
        for (int picture = 0; picture < show.pictures; picture++) {
            for (int fact = 0; fact < FACTS; fact++) {
                h = mixed(h, show.facts[picture][fact]);
            }
            for (int cell = 0; cell < CELLS; cell++) {
                h = mixed(h, putRight(picture, cell));
            }
            h = mixed(h, nearness(picture, DIGESTS_WINDOW));
            for (int measure = 0; measure < measureCount; measure++) {
                h = mixed(h, valueOf(measure, picture));
            }
        }
        return h;
    }

    private long withMeasures(long before) {
        long h = before;
        int counted = show.counted();
        int nearOnes = show.nearOnes(DIGESTS_WINDOW);
        for (int measure = 0; measure < measureCount; measure++) {
            layOut(measure);
            dealing.deal(counted, nearOnes);
            h = mixed(h, dealing.observed);
            h = mixed(h, inLowestTerms(dealing.above, dealing.below, 0));
            h = mixed(h, inLowestTerms(dealing.above, dealing.below, 1));
        }
        for (int measure = 0; measure < measureCount && law.size > 0; measure++) {
            h = mixed(h, dateless(measure));
        }
        return h;
    }

    private long withIce(long before) {
        long h = before;
        for (int year = 0; year <= LAST_YEAR; year++) {
            if (show.lows[year] != NONE) {
                h = mixed(mixed(mixed(h, year), show.lows[year]), show.highs[year]);
            }
        }
        return h;
    }

    /** THE PAGE: letters that wait to be read as a text. */
    private static final class Page {
        final int[] codes = new int[MOST_LETTERS];
        int size;

        /** How many letters w tells; NONE, if it tells none such. */
        static int lettersIn(long w) {
            int many = 0;
            for (int i = 0; i < 8; i++) {
                int code = codeIn(w, i);
                if (code > 126 || (code != 0 && many < i)) {
                    return NONE;
                }
                if (code != 0) {
                    many++;
                }
            }
            return many;
        }

        static int codeIn(long w, int i) {
            return (int) (w >>> (8 * i)) & 255;
        }

        void append(long w, int more) {
            for (int i = 0; i < more && size < MOST_LETTERS; i++) {
                codes[size] = codeIn(w, i);
                size++;
            }
        }

        /** How many letters stand from the first one on, as the reader takes them. */
        int standing(Reader reader) {
            reader.begin();
            for (int i = 0; i < size; i++) {
                if (!reader.take(codes[i])) {
                    return i;
                }
            }
            return size;
        }

        boolean isWhole(Reader reader) {
            return standing(reader) == size && reader.isDone();
        }
    }

    /** Reads a text letter by letter; takes a letter only if some whole text goes on so. */
    private abstract static class Reader {
        abstract void begin();

        abstract boolean take(int letter);

        abstract boolean isDone();

        static int colourOf(int letter) {
            switch (letter) {
                case 'r':
                    return RED;
                case 'g':
                    return GREEN;
                case 'b':
                    return BLUE;
                default:
                    return NONE;
            }
        }

        static int digitOf(int letter) {
            return letter >= '0' && letter <= '9' ? letter - '0' : NONE;
        }
    }

    private static final class LampReader extends Reader {
        private static final int AT_COLOUR = 0, AT_SIGN = 1, AT_NUMBER = 2, IN_NUMBER = 3;
        private static final int GREATEST = 20;

        final int[] more = new int[COLOURS];
        private final boolean[] isTold = new boolean[COLOURS];
        private int place;
        private int colour;
        private int sign;
        private int number;

        void begin() {
            for (int i = 0; i < COLOURS; i++) {
                more[i] = 0;
                isTold[i] = false;
            }
            place = AT_COLOUR;
        }

        boolean take(int letter) {
            switch (place) {
                case AT_COLOUR:
                    return takeColour(letter);
                case AT_SIGN:
                    return takeSign(letter);
                case AT_NUMBER:
                    return takeDigit(0, digitOf(letter));
                default:
                    return takeBehindDigit(letter);
            }
        }

        boolean isDone() {
            return place == IN_NUMBER;
        }

        private boolean takeColour(int letter) {
            int next = colourOf(letter);
            if (next == NONE || isTold[next]) {
                return false;
            }
            colour = next;
            isTold[next] = true;
            place = AT_SIGN;
            return true;
        }

        private boolean takeSign(int letter) {
            if (letter != '+' && letter != '-') {
                return false;
            }
            sign = letter == '+' ? 1 : -1;
            place = AT_NUMBER;
            return true;
        }

        private boolean takeDigit(int ahead, int digit) {
            int grown = ahead * 10 + digit;
            if (digit == NONE || grown > GREATEST) {
                return false;
            }
            number = grown;
            more[colour] = sign * grown;
            place = IN_NUMBER;
            return true;
        }

        private boolean takeBehindDigit(int letter) {
            int digit = digitOf(letter);
            if (digit == NONE) {
                return takeColour(letter);
            }
            return number != 0 && takeDigit(number, digit);
        }
    }

    private static final class MeasureReader extends Reader {
        private static final int AT_COLOUR = 0, AT_PART = 1, IN_PARTS = 2;
        private static final int MOST_TERMS = 4;

        /** How often each COLOUR of each PART is in the first SUM, then in the second one. */
        final int[] times = new int[2 * CELLS];
        private int place;
        private int sum;
        private int terms;
        private int colour;
        private int part;

        void begin() {
            Arrays.fill(times, 0);
            place = AT_COLOUR;
            sum = 0;
            terms = 1;
        }

        boolean take(int letter) {
            if (place == AT_COLOUR) {
                return takeColour(letter);
            }
            int digit = digitOf(letter);
            if (digit != NONE) {
                return takePart(digit);
            }
            return place == IN_PARTS && takeBetween(letter);
        }

        boolean isDone() {
            return place == IN_PARTS && sum == 1;
        }

        private boolean takeColour(int letter) {
            int next = colourOf(letter);
            if (next == NONE) {
                return false;
            }
            colour = next;
            part = NONE;
            place = AT_PART;
            return true;
        }

        private boolean takePart(int digit) {
            if (digit <= part || digit >= PARTS) {
                return false;
            }
            part = digit;
            times[sum * CELLS + part * COLOURS + colour]++;
            place = IN_PARTS;
            return true;
        }

        private boolean takeBetween(int letter) {
            if (letter == '+' && terms < MOST_TERMS) {
                terms++;
            } else if (letter == '/' && sum == 0) {
                sum = 1;
                terms = 1;
            } else {
                return false;
            }
            place = AT_COLOUR;
            return true;
        }
    }

    private static final class LawReader extends Reader {
        final int[] bounds = new int[MOST_BOUNDS];
        int size;
        int number;
        private int digits;
        private boolean isAtGive;

        void begin() {
            size = 0;
            number = 0;
            digits = 0;
            isAtGive = false;
        }

        boolean take(int letter) {
            int digit = digitOf(letter);
            if (digit != NONE) {
                return isAtGive ? takeOfGive(digit) : takeOfBound(digit);
            }
            if (isAtGive || digits == 0 || number <= boundAhead()) {
                return false;
            }
            if (letter == ',') {
                return number < GREATEST_BOUND && size + 1 < MOST_BOUNDS && endBound();
            }
            isAtGive = letter == ';';
            return isAtGive && endBound();
        }

        boolean isDone() {
            return isAtGive && digits > 0;
        }

        private int boundAhead() {
            return size > 0 && size <= MOST_BOUNDS ? bounds[size - 1] : 0;
        }

        private boolean takeOfGive(int digit) {
            if (digits == 2 || (digits == 1 && number == 0)) {
                return false;
            }
            grow(digit);
            return true;
        }

        private boolean takeOfBound(int digit) {
            if (digits == 3 || (digits == 0 && digit == 0)) {
                return false;
            }
            grow(digit);
            int greatest = number;
            for (int i = digits; i < 3; i++) {
                greatest = greatest * 10 + 9;
            }
            return greatest > boundAhead();
        }

        private void grow(int digit) {
            number = number * 10 + digit;
            digits++;
        }

        private boolean endBound() {
            if (size >= MOST_BOUNDS) {
                return false;
            }
            bounds[size] = number;
            size++;
            number = 0;
            digits = 0;
            return true;
        }
    }

    /** THE LAW of dust; there is none while it has no BOUNDS. */
    private static final class Law {
        private final int[] bounds = new int[MOST_BOUNDS];
        int size;
        private int give;

        void takeFrom(LawReader reader) {
            System.arraycopy(reader.bounds, 0, bounds, 0, MOST_BOUNDS);
            size = reader.size;
            give = reader.number;
        }

        int lowest(int value) {
            return classOf(value - give);
        }

        int highest(int value) {
            return classOf(value + give);
        }

        private int classOf(int value) {
            int reached = 0;
            for (int i = 0; i < size && i < MOST_BOUNDS; i++) {
                if (bounds[i] <= value) {
                    reached++;
                }
            }
            return reached;
        }
    }

    /** PICTURES, MOUNTAINS and ICE: all that an IMAGE keeps. */
    private static final class Show {
        private static final int MEMORYS_MORE = 5;

        /** Of each PICTURE what about() tells for 0 to 5. */
        final int[][] facts = new int[MOST_PICTURES][FACTS];
        final int[][] seen = new int[MOST_PICTURES][CELLS];
        final int[] eruptions = new int[MOST_MOUNTAINS];
        /** The least CLASS that ICE tells of a YEAR; NONE, if it tells nothing. */
        final int[] lows = new int[LAST_YEAR + 1];
        final int[] highs = new int[LAST_YEAR + 1];
        int pictures;
        int mountains;
        int told;

        Show() {
            Arrays.fill(lows, NONE);
        }

        void takeFrom(Show other) {
            for (int i = 0; i < other.pictures; i++) {
                System.arraycopy(other.facts[i], 0, facts[i], 0, FACTS);
                System.arraycopy(other.seen[i], 0, seen[i], 0, CELLS);
            }
            System.arraycopy(other.eruptions, 0, eruptions, 0, MOST_MOUNTAINS);
            System.arraycopy(other.lows, 0, lows, 0, LAST_YEAR + 1);
            System.arraycopy(other.highs, 0, highs, 0, LAST_YEAR + 1);
            pictures = other.pictures;
            mountains = other.mountains;
            told = other.told;
        }

        boolean has(int picture) {
            return picture >= 0 && picture < pictures;
        }

        /** The number of the new PICTURE, or FULL. */
        int hang(int kind, int hand, int year, int span, int lamp, int pigment) {
            if (pictures >= MOST_PICTURES) {
                return FULL;
            }
            int[] row = facts[pictures];
            row[KIND] = kind;
            row[HAND] = hand;
            row[YEAR] = year;
            row[SPAN] = isOfKind(kind, STUDY) ? 0 : span;
            row[LAMP] = lamp;
            row[PIGMENT] = pigment;
            // The row may still hold the COLOURS of a PICTURE that restore() has taken away.
            Arrays.fill(seen[pictures], 0);
            pictures++;
            return pictures - 1;
        }

        boolean isCounted(int picture) {
            return facts[picture][KIND] != COPY;
        }

        boolean isNear(int picture, int w) {
            int reach = facts[picture][KIND] == MEMORY ? w + MEMORYS_MORE : w;
            for (int i = 0; i < mountains; i++) {
                int since = facts[picture][YEAR] - eruptions[i];
                if (since >= 0 && since <= reach) {
                    return true;
                }
            }
            return false;
        }

        /** The counted PICTURES, as bits. */
        int counted() {
            int bits = 0;
            for (int picture = 0; picture < pictures; picture++) {
                if (isCounted(picture)) {
                    bits |= 1 << picture;
                }
            }
            return bits;
        }

        /** The counted PICTURES that are NEAR, as bits. */
        int nearOnes(int w) {
            int bits = 0;
            for (int picture = 0; picture < pictures; picture++) {
                if (isCounted(picture) && isNear(picture, w)) {
                    bits |= 1 << picture;
                }
            }
            return bits;
        }

        boolean isOfJust(int picture, int year) {
            return isCounted(picture) && facts[picture][YEAR] == year && facts[picture][SPAN] == 0;
        }

        void tellIce(int year, int low, int high) {
            if (lows[year] == NONE) {
                told++;
            }
            lows[year] = low;
            highs[year] = high;
        }

        void forgetIce(int year) {
            if (lows[year] != NONE) {
                told--;
            }
            lows[year] = NONE;
        }

        boolean iceAllows(int year, int low, int high) {
            return lows[year] == NONE || (lows[year] <= high && low <= highs[year]);
        }
    }

    /** Paints PICTURES by a SEED. */
    private static final class Painter {
        private static final long FACTOR = 1103515245, ADDED = 12345, SEEDS = 2147483648L, COARSE = 65536;

        long seed;

        private int draw(int d) {
            seed = (FACTOR * seed + ADDED) % SEEDS;
            return d < 1 ? 0 : (int) (seed / COARSE % d);
        }

        void paintOne(Show show, int hand) {
            int year = draw(401);
            int span = draw(4);
            int picture = show.hang(PLAIN, hand, year, span, NONE, NONE);
            if (!show.has(picture)) {
                return;
            }
            int glow = show.isNear(picture, PAINTERS_WINDOW) ? 15 : 0;
            int[] row = show.seen[picture];
            for (int part = 0; part < PARTS; part++) {
                row[part * COLOURS + RED] = 20 + draw(40) + glow;
                row[part * COLOURS + GREEN] = 20 + draw(40);
                row[part * COLOURS + BLUE] = draw(60);
            }
        }
    }

    /**
     * Deals the NEAR places of each HAND anew. All pairs inside a choice cancel out, so that
     * its STAT is the sum of what each chosen PICTURE has against all of its HAND; so choices
     * need not be gone through one by one, only counted by their sums.
     */
    private static final class Dealing {
        // The pairs of 16 PICTURES, some NEAR, some not, are 64 at most.
        private static final int ZERO = 64, SUMS = 129, MOST_CHOSEN = 8;

        final int[] hands = new int[MOST_PICTURES];
        final int[] values = new int[MOST_PICTURES];
        int observed;
        long above;
        long below;
        long leastAbove;
        long leastBelow;
        /** How many choices of so many PICTURES have this sum. */
        private final int[][] ways = new int[MOST_CHOSEN + 1][SUMS];
        private int reach;

        /** STAT. */
        int pairs(int counted, int nearOnes) {
            int together = 0;
            for (int picture = 0; picture < MOST_PICTURES; picture++) {
                if (holds(nearOnes, picture)) {
                    together += against(picture, counted);
                }
            }
            return together;
        }

        /** ODDS, not in lowest terms: above and below. */
        void deal(int counted, int nearOnes) {
            Arrays.fill(ways[0], 0);
            ways[0][ZERO] = 1;
            reach = 0;
            observed = pairs(counted, nearOnes);
            for (int hand = 0; hand <= LAST_HAND; hand++) {
                dealHand(ofHand(hand, counted), nearOnes);
            }
            above = 0;
            below = 0;
            for (int sum = 0; sum < SUMS; sum++) {
                below += ways[0][sum];
                if (sum - ZERO >= observed) {
                    above += ways[0][sum];
                }
            }
        }

        void forgetLeast() {
            leastAbove = 1;
            leastBelow = 1;
        }

        void keepLeast() {
            if (above * leastBelow < leastAbove * below) {
                leastAbove = above;
                leastBelow = below;
            }
        }

        /** HANGS. */
        int heaviest(int counted, int nearOnes) {
            int best = NONE;
            long bestAbove = 0;
            long bestBelow = 1;
            for (int picture = 0; picture < MOST_PICTURES; picture++) {
                if (holds(counted, picture)) {
                    int others = ~(1 << picture);
                    deal(counted & others, nearOnes & others);
                    if (above * bestBelow > bestAbove * below) {
                        best = picture;
                        bestAbove = above;
                        bestBelow = below;
                    }
                }
            }
            return best;
        }

        /** NEXT. */
        int mostOpen(int counted, int nearOnes) {
            int best = NONE;
            long bestSize = -1;
            for (int picture = 0; picture < MOST_PICTURES; picture++) {
                if (holds(counted, picture)) {
                    // As many choices there are with either VALUE: ODDS have one number below.
                    long size = Math.abs(aboveWith(picture, BELOW_ALL, counted, nearOnes)
                            - aboveWith(picture, ABOVE_ALL, counted, nearOnes));
                    if (size > bestSize) {
                        best = picture;
                        bestSize = size;
                    }
                }
            }
            return best;
        }

        private long aboveWith(int picture, int value, int counted, int nearOnes) {
            int before = values[picture];
            values[picture] = value;
            deal(counted, nearOnes);
            values[picture] = before;
            return above;
        }

        private static boolean holds(int bits, int picture) {
            return (bits >> picture & 1) == 1;
        }

        private int ofHand(int hand, int counted) {
            int bits = 0;
            for (int picture = 0; picture < MOST_PICTURES; picture++) {
                if (holds(counted, picture) && hands[picture] == hand) {
                    bits |= 1 << picture;
                }
            }
            return bits;
        }

        /** What a PICTURE has against all counted ones of its HAND, 1 and -1 together. */
        private int against(int picture, int counted) {
            int together = 0;
            for (int other = 0; other < MOST_PICTURES; other++) {
                if (holds(counted, other) && hands[other] == hands[picture]) {
                    if (values[picture] > values[other]) {
                        together++;
                    } else if (values[picture] < values[other]) {
                        together--;
                    }
                }
            }
            return together;
        }

        private void dealHand(int members, int nearOnes) {
            int all = Integer.bitCount(members);
            int chosen = Integer.bitCount(members & nearOnes);
            // To choose those that are not NEAR comes to the same, with the sums turned round.
            int fewer = Math.min(chosen, all - chosen);
            int side = chosen == fewer ? 1 : -1;
            if (fewer < 1 || fewer > MOST_CHOSEN) {
                return;
            }
            for (int many = 1; many <= fewer; many++) {
                Arrays.fill(ways[many], 0);
            }
            reach = Math.min(ZERO, reach + fewer * (all - fewer));
            for (int picture = 0; picture < MOST_PICTURES; picture++) {
                if (holds(members, picture)) {
                    addToChoices(side * against(picture, members), fewer);
                }
            }
            System.arraycopy(ways[fewer], 0, ways[0], 0, SUMS);
        }

        private void addToChoices(int own, int most) {
            for (int many = most; many >= 1; many--) {
                int[] without = ways[many - 1];
                int[] with = ways[many];
                for (int sum = ZERO - reach; sum <= ZERO + reach; sum++) {
                    int to = sum + own;
                    if (without[sum] != 0 && to >= 0 && to < SUMS) {
                        with[to] += without[sum];
                    }
                }
            }
        }
    }
}
