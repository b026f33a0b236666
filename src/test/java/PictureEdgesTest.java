import java.util.Arrays;

/** Promises 8 to 16, and of the Terms PIGMENTS, PICTURES, PUT RIGHT, VALUE, NEAR: a test for each sentence with an edge. */
public final class PictureEdgesTest {
    private static final int NONE = Due.NONE;

    public static void main(String[] args) {
        yearsAre0To400();
        pigmentsFourAtMost();
        fadeZeroToNine();
        picturesSixteenAtMost();
        kindsHandsAndSpans();
        spanOfAStudyIsZero();
        lampAndPigmentMayBeNone();
        partsAndColours();
        coloursAreZeroUntilTold();
        colourBecomesAndTellsWhatItWas();
        asTellsItsOwnNumber();
        asFails();
        aboutTellsOfEach();
        rightIsZeroAtLeast();
        rightIs99AtMost();
        redLosesByWhole50s();
        redLosesBehindTheLamp();
        valueBySecondSumOneAtLeast();
        valueIsRoundedDown();
        valueTakesATermAsOftenAsItStands();
        valueOfEachPartAndColour();
        mountainsSixAtMost();
        nearFromZeroToW();
        nearOfAMemory();
        nearOfACopy();
        paintedManyAndSeed();
        paintedBeyondSixteen();
        paintedNearAtThatTime();
        paintedSeedDoesNotWrap();
        paintedSeedGoesOn();
        paintedFromTheLeastToTheGreatestDraw();
        Due.finish();
    }

    private static int plain(RedSkies x, int year) {
        return x.picture(0, 0, year, 0, NONE, NONE);
    }

    /** Promises 8, 9, 14, 22: "YEARS are 0 to 400" */
    private static void yearsAre0To400() {
        for (int year = -3; year <= 403; year++) {
            RedSkies x = new RedSkies();
            int want = year < 0 || year > 400 ? Due.OUTSIDE : 0;
            Due.due("pigment(" + year + ", 0)", x.pigment(year, 0), want);
            Due.due("picture() of " + year, plain(x, year), want);
            Due.due("mountain(" + year + ")", x.mountain(year), want);
            Due.due("ice(" + year + ", 0, 0)", x.ice(year, 0, 0), want == 0 ? 1 : want);
            Due.due("what it counts", x.count(1) + x.count(2) + x.count(4) + x.count(6), want == 0 ? 4 : 0);
        }
    }

    /** Promise 8: "PIGMENTS (4 at most, numbered)" */
    private static void pigmentsFourAtMost() {
        RedSkies x = new RedSkies();
        for (int i = 0; i < 4; i++) {
            Due.due("PIGMENT " + i, x.pigment(400, i), i);
            Due.due("a PICTURE with it", x.picture(0, 0, 400, 0, NONE, i), i);
            Due.due("its red", x.about(i, 10), 2 * i);
            Due.due("a PICTURE with the next one", x.picture(0, 0, 400, 0, NONE, i + 1), Due.UNKNOWN);
        }
        Due.due("a fifth PIGMENT", x.pigment(0, 0), Due.FULL);
        Due.due("count(1)", x.count(1), 4);
    }

    /** Promise 8: "FADE (0 to 9)" */
    private static void fadeZeroToNine() {
        for (int fade = -2; fade <= 11; fade++) {
            RedSkies x = new RedSkies();
            boolean isOne = fade >= 0 && fade <= 9;
            Due.due("pigment(0, " + fade + ")", x.pigment(0, fade), isOne ? 0 : Due.OUTSIDE);
            Due.due("a PICTURE with it", x.picture(0, 0, 0, 0, NONE, 0), isOne ? 0 : Due.UNKNOWN);
            Due.due("its red", x.about(0, 10), isOne ? 10 * fade : Due.UNKNOWN);
        }
    }

    /** Promise 9: "PICTURES (16 at most, numbered)" */
    private static void picturesSixteenAtMost() {
        RedSkies x = new RedSkies();
        for (int i = 0; i < 16; i++) {
            Due.due("PICTURE " + i + " ahead of it", x.about(i, 2), Due.UNKNOWN);
            Due.due("PICTURE " + i, plain(x, i), i);
            Due.due("its YEAR", x.about(i, 2), i);
        }
        Due.due("a seventeenth", plain(x, 0), Due.FULL);
        Due.due("PICTURE 16", x.about(16, 2), Due.UNKNOWN);
        Due.due("count(2)", x.count(2), 16);
    }

    /** Promise 9: "KINDS: 0 .. 4 MEMORY, with a HAND (0 to 4), .. a SPAN (0 to 20" */
    private static void kindsHandsAndSpans() {
        for (int v = -2; v <= 23; v++) {
            RedSkies x = new RedSkies();
            boolean isFew = v >= 0 && v <= 4;
            boolean isSpan = v >= 0 && v <= 20;
            Due.due("kind " + v, x.picture(v, 0, 0, 0, NONE, NONE), isFew ? 0 : Due.OUTSIDE);
            Due.due("hand " + v, x.picture(0, v, 0, 0, NONE, NONE), isFew ? 1 : Due.OUTSIDE);
            Due.due("span " + v, x.picture(0, 0, 0, v, NONE, NONE), !isSpan ? Due.OUTSIDE : isFew ? 2 : 0);
            Due.due("kind, told", x.about(0, 0), isFew ? v : isSpan ? 0 : Due.UNKNOWN);
            Due.due("hand, told", x.about(1, 1), isFew ? v : Due.UNKNOWN);
            Due.due("span, told", x.about(isFew ? 2 : 0, 3), isSpan ? v : Due.UNKNOWN);
        }
    }

    /** Promise 9: "The SPAN of a STUDY is 0, whatever it is told"; "a WINDOW is a STUDY, too" */
    private static void spanOfAStudyIsZero() {
        RedSkies x = new RedSkies();
        Due.measure(x, "r0/g0");
        Due.law(x, "9;0");
        for (int kind = 0; kind <= 4; kind++) {
            boolean isStudy = kind == 1 || kind == 2;
            for (int span : new int[] {0, 1, 20}) {
                int number = x.picture(kind, 0, 200, span, NONE, NONE);
                Due.due("SPAN " + span + " of KIND " + kind, x.about(number, 3), isStudy ? 0 : span);
                Due.due("its DATES", x.dates(0, number, 0), isStudy ? 1 : 2 * span + 1);
            }
            Due.due("SPAN -1 of KIND " + kind, x.picture(kind, 0, 200, -1, NONE, NONE), Due.OUTSIDE);
            Due.due("SPAN 21 of KIND " + kind, x.picture(kind, 0, 200, 21, NONE, NONE), Due.OUTSIDE);
        }
    }

    /** Promise 9: "UNKNOWN: lamp, pigment (NONE: none)" */
    private static void lampAndPigmentMayBeNone() {
        RedSkies x = new RedSkies();
        Due.lamp(x, "r+9");
        x.pigment(0, 9);
        int[] told = {NONE, 0};
        for (int lamp : told) {
            for (int pigment : told) {
                int number = x.picture(0, 0, 400, 0, lamp, pigment);
                x.colour(number, 0, 0, 50);
                Due.due("LAMP", x.about(number, 4), lamp);
                Due.due("PIGMENT", x.about(number, 5), pigment);
                Due.due("red", x.about(number, 10), 50 - 9 * (lamp + 1) + 18 * (pigment + 1));
            }
        }
        for (int v = -3; v <= 3; v++) {
            boolean isNamed = v == NONE || v == 0;
            Due.due("lamp " + v, Math.min(0, x.picture(0, 0, 0, 0, v, NONE)), isNamed ? 0 : Due.UNKNOWN);
            Due.due("pigment " + v, Math.min(0, x.picture(0, 0, 0, 0, NONE, v)), isNamed ? 0 : Due.UNKNOWN);
        }
    }

    /** Promise 10: "PARTS 0 to 3, each with COLOURS 0 red, 1 green, 2 blue (0 to 99)" */
    private static void partsAndColours() {
        RedSkies x = new RedSkies();
        plain(x, 0);
        for (int part = -1; part <= 4; part++) {
            for (int colour = -1; colour <= 3; colour++) {
                boolean isOne = part >= 0 && part <= 3 && colour >= 0 && colour <= 2;
                Due.due("colour of " + part + ", " + colour, x.colour(0, part, colour, 9), isOne ? 0 : Due.OUTSIDE);
            }
        }
        for (int v = -5; v <= 105; v++) {
            boolean isOne = v >= 0 && v <= 99;
            int was = x.about(0, 21);
            Due.due("colour becomes " + v, x.colour(0, 3, 2, v), isOne ? was : Due.OUTSIDE);
            Due.due("it is", x.about(0, 21), isOne ? v : was);
        }
    }

    /** Promises 9, 10: "COLOURS are 0 until they are told" */
    private static void coloursAreZeroUntilTold() {
        RedSkies x = new RedSkies();
        x.image();
        World.some(new Calls(x));
        for (int round = 0; round < 2; round++) {
            int number = plain(x, 0);
            for (int cell = 0; cell < 12; cell++) {
                Due.due("COLOUR " + cell + " is", x.about(number, 10 + cell), 0);
                Due.due("COLOUR " + cell + " was", x.colour(number, cell / 3, cell % 3, 99), 0);
                Due.due("COLOUR " + cell + " becomes", x.about(number, 10 + cell), 99);
            }
            x.restore();
        }
    }

    /** Promise 10: "A COLOUR of a PART becomes v: what it was" (as seen, not PUT RIGHT) */
    private static void colourBecomesAndTellsWhatItWas() {
        RedSkies x = new RedSkies();
        Due.lamp(x, "r+20g-20");
        x.pigment(0, 1);
        x.picture(3, 0, 0, 0, 0, 0);
        Due.due("red was", x.colour(0, 1, 0, 70), 0);
        Due.due("red was", x.colour(0, 1, 0, 71), 70);
        Due.due("red PUT RIGHT", x.about(0, 13), 61);
        Due.due("green was", x.colour(0, 1, 1, 70), 0);
        Due.due("green was", x.colour(0, 1, 1, 0), 70);
        Due.due("green PUT RIGHT", x.about(0, 14), 20);
    }

    /** Promise 11: "A PICTURE taken as a KIND: its own number, not that of the KIND" */
    private static void asTellsItsOwnNumber() {
        for (int kind = 0; kind <= 4; kind++) {
            RedSkies x = new RedSkies();
            for (int i = 0; i < 16; i++) {
                x.picture(kind, 0, 0, 0, NONE, NONE);
                Due.due("as its KIND", x.as(i, kind), i);
                Due.due("as a PICTURE", x.as(i, 0), i);
                Due.due("as a STUDY", x.as(i, 1), kind == 1 || kind == 2 ? i : NONE);
            }
        }
    }

    /** Promise 11: "NONE: it is none such (the cast fails)" */
    private static void asFails() {
        RedSkies x = new RedSkies();
        String[] none = {"1234", "234", "34", "124", "123"};
        for (int kind = 0; kind <= 4; kind++) {
            x.picture(kind, 0, 0, 0, NONE, NONE);
            for (char other : none[kind].toCharArray()) {
                Due.due("KIND " + kind + " as " + other, x.as(kind, other - '0'), NONE);
            }
        }
    }

    /** Promise 12: "what = 0 KIND .. 5 PIGMENT (NONE), 10 and 3 times a PART and a COLOUR .. (10 to 21)" */
    private static void aboutTellsOfEach() {
        RedSkies x = new RedSkies();
        plain(x, 0);
        for (int i = 0; i < 12; i++) {
            x.colour(0, i / 3, i % 3, 50 + i);
        }
        for (int what = -2; what <= 25; what++) {
            int due = what >= 10 && what <= 21 ? 40 + what : what < 0 || what > 5 ? Due.OUTSIDE : what < 4 ? 0 : NONE;
            Due.due("about(0, " + what + ")", x.about(0, what), due);
        }
    }

    /** The COLOUR PUT RIGHT that was seen under a LAMP, with a PIGMENT of this FADE, painted in this YEAR. */
    private static int right(int colour, int seen, String lamp, int fade, int year) {
        RedSkies x = new RedSkies();
        Due.lamp(x, lamp);
        x.pigment(0, fade);
        x.picture(0, 0, year, 0, 0, 0);
        x.colour(0, 0, colour, seen);
        return x.about(0, 10 + colour);
    }

    /** Promise 12: "less what the LAMP has more (0 at least" */
    private static void rightIsZeroAtLeast() {
        for (int colour = 0; colour < 3; colour++) {
            String lamp = "rgb".charAt(colour) + "+";
            Due.due("0 under 20 more", right(colour, 0, lamp + 20, 0, 0), 0);
            Due.due("19 under 20 more", right(colour, 19, lamp + 20, 0, 0), 0);
            Due.due("20 under 20 more", right(colour, 20, lamp + 20, 0, 0), 0);
            Due.due("21 under 20 more", right(colour, 21, lamp + 20, 0, 0), 1);
            Due.due("99 under 0 more", right(colour, 99, lamp + 0, 0, 0), 99);
            Due.due("99 under 20 more", right(colour, 99, lamp + 20, 0, 0), 79);
        }
    }

    /** Promise 12: "99 at most)" */
    private static void rightIs99AtMost() {
        for (int colour = 0; colour < 3; colour++) {
            String lamp = "rgb".charAt(colour) + "-";
            Due.due("78 under 20 less", right(colour, 78, lamp + 20, 0, 0), 98);
            Due.due("79 under 20 less", right(colour, 79, lamp + 20, 0, 0), 99);
            Due.due("80 under 20 less", right(colour, 80, lamp + 20, 0, 0), 99);
            Due.due("99 under 20 less", right(colour, 99, lamp + 20, 0, 0), 99);
        }
    }

    /** Promise 12: "of red, FADE times the whole 50s of YEARS from its YEAR to 500 more (99 at most)"; "looked at in YEAR 500" */
    private static void redLosesByWhole50s() {
        int[][] dues = {{400, 2}, {399, 2}, {351, 2}, {350, 3}, {301, 3}, {300, 4}, {51, 8}, {50, 9}, {1, 9}, {0, 10}};
        for (int[] due : dues) {
            for (int fade = 0; fade <= 9; fade++) {
                Due.due("red of " + due[0], right(0, 5, "g+1", fade, due[0]), 5 + fade * due[1]);
                Due.due("green of " + due[0], right(1, 5, "r+1", fade, due[0]), 5);
                Due.due("blue of " + due[0], right(2, 5, "r+1", fade, due[0]), 5);
            }
        }
        for (int seen = 6; seen <= 99; seen++) {
            Due.due("red of 0, much", right(0, seen, "g+1", 9, 0), Math.min(99, seen + 90));
        }
    }

    /** Promise 12: The LAMP's edges (0 at least, 99 at most) come ahead of what is lost. */
    private static void redLosesBehindTheLamp() {
        Due.due("5 under 20 more, 10 lost", right(0, 5, "r+20", 1, 0), 10);
        Due.due("20 under 20 more, 10 lost", right(0, 20, "r+20", 1, 0), 10);
        Due.due("90 under 20 less, 10 lost", right(0, 90, "r-20", 1, 0), 99);
        Due.due("69 under 20 less, 10 lost", right(0, 69, "r-20", 1, 0), 99);
        Due.due("68 under 20 less, 10 lost", right(0, 68, "r-20", 1, 0), 98);
    }

    private static int value(String measure, int red, int green) {
        RedSkies x = new RedSkies();
        Due.measure(x, measure);
        plain(x, 0);
        x.colour(0, 0, 0, red);
        x.colour(0, 0, 1, green);
        return x.value(0, 0);
    }

    /** Promise 13: "by the second one (1 at least)" */
    private static void valueBySecondSumOneAtLeast() {
        Due.due("0 by 0", value("r0/g0", 0, 0), 0);
        Due.due("99 by 0", value("r0/g0", 99, 0), 9900);
        Due.due("99 by 1", value("r0/g0", 99, 1), 9900);
        Due.due("99 by 2", value("r0/g0", 99, 2), 4950);
        Due.due("the greatest VALUE", value("r0+r0+r0+r0/g0", 99, 0), 39600);
    }

    /** Promise 13: "rounded down" */
    private static void valueIsRoundedDown() {
        for (int red = 0; red <= 99; red += 9) {
            for (int green = 1; green <= 99; green += 7) {
                Due.due(red + " by " + green, value("r0/g0", red, green), (long) Math.floor(100.0 * red / green));
            }
        }
    }

    /** Promise 13: A SUM of like TERMS counts each. */
    private static void valueTakesATermAsOftenAsItStands() {
        Due.due("twice above", value("r0+r0/g0", 30, 10), 600);
        Due.due("twice below", value("r0/g0+g0", 30, 10), 150);
        Due.due("above and below", value("r0+g0/g0+r0", 30, 10), 100);
    }

    /** Promise 13: "of its COLOURS": each PART and COLOUR alone, above and below. */
    private static void valueOfEachPartAndColour() {
        for (int cell = 0; cell < 12; cell++) {
            RedSkies x = new RedSkies();
            String term = "" + "rgb".charAt(cell % 3) + cell / 3;
            String other = "" + "rgb".charAt((cell + 1) % 3) + cell / 3;
            Due.measure(x, term + "/" + other);
            Due.measure(x, other + "/" + term);
            plain(x, 0);
            for (int i = 0; i < 12; i++) {
                x.colour(0, i / 3, i % 3, i == cell ? 50 : 5);
            }
            Due.due(term + " above", x.value(0, 0), 1000);
            Due.due(term + " below", x.value(1, 0), 10);
        }
    }

    /** Promise 14: "MOUNTAINS (6 at most, numbered)" */
    private static void mountainsSixAtMost() {
        RedSkies x = new RedSkies();
        for (int i = 0; i < 6; i++) {
            plain(x, 100 * i / 2);
            Due.due("ahead of MOUNTAIN " + i, x.near(i, 9), 0);
            Due.due("MOUNTAIN " + i, x.mountain(100 * i / 2), i);
            Due.due("behind it", x.near(i, 0), 1);
        }
        plain(x, 399);
        Due.due("a seventh MOUNTAIN", x.mountain(399), Due.FULL);
        Due.due("no seventh MOUNTAIN", x.near(6, 0), 0);
        Due.due("count(4)", x.count(4), 6);
    }

    /** Promise 15: "NEAR by a WINDOW of w (0 to 9), if one did 0 to w YEARS ahead of its YEAR" */
    private static void nearFromZeroToW() {
        for (int kind = 0; kind <= 2; kind++) {
            RedSkies x = new RedSkies();
            x.mountain(390);
            for (int ahead = -1; ahead <= 10; ahead++) {
                int number = x.picture(kind, 0, 390 + ahead, 20, NONE, NONE);
                for (int w = -1; w <= 10; w++) {
                    int due = w < 0 || w > 9 ? Due.OUTSIDE : ahead >= 0 && ahead <= w ? 1 : 0;
                    Due.due(ahead + " YEARS, w " + w, x.near(number, w), due);
                }
            }
        }
    }

    /** Promise 15: "a MEMORY: 0 to w and 5" */
    private static void nearOfAMemory() {
        RedSkies x = new RedSkies();
        x.mountain(0);
        for (int ahead = 0; ahead <= 15; ahead++) {
            int number = x.picture(4, 0, ahead, 0, NONE, NONE);
            for (int w = 0; w <= 9; w++) {
                Due.due("a MEMORY " + ahead + " YEARS, w " + w, x.near(number, w), ahead <= w + 5 ? 1 : 0);
            }
        }
        x = new RedSkies();
        x.mountain(400);
        x.picture(4, 0, 399, 0, NONE, NONE);
        Due.due("a MEMORY ahead of it", x.near(0, 9), 0);
    }

    /** Promise 15: "a COPY is not counted at all"; "NONE: it is not counted" */
    private static void nearOfACopy() {
        RedSkies x = new RedSkies();
        x.picture(3, 0, 100, 0, NONE, NONE);
        for (int w = 0; w <= 9; w++) {
            Due.due("a COPY far from all", x.near(0, w), NONE);
        }
        x.mountain(100);
        for (int w = 0; w <= 9; w++) {
            Due.due("a COPY of the YEAR itself", x.near(0, w), NONE);
        }
        Due.due("w -1 of a COPY", x.near(0, -1), Due.OUTSIDE);
    }

    /** Promise 16: "OUTSIDE: hand, many (1 to 8), seed (0 at least)" */
    private static void paintedManyAndSeed() {
        for (int many = -2; many <= 11; many++) {
            boolean isOne = many >= 1 && many <= 8;
            Due.due("many " + many, new RedSkies().paint(0, many, 0), isOne ? many : Due.OUTSIDE);
            RedSkies x = new RedSkies();
            boolean isHand = many >= 0 && many <= 4;
            Due.due("hand " + many, x.paint(many, 1, 0), isHand ? 1 : Due.OUTSIDE);
            Due.due("of HAND", x.about(0, 1), isHand ? many : Due.UNKNOWN);
        }
        Due.due("seed 0", new RedSkies().paint(0, 1, 0), 1);
        Due.due("seed -1", new RedSkies().paint(0, 1, -1), Due.OUTSIDE);
        Due.due("the greatest seed", new RedSkies().paint(0, 1, Integer.MAX_VALUE), 1);
    }

    /** Promise 16: "Beyond 16 none is painted" */
    private static void paintedBeyondSixteen() {
        RedSkies whole = new RedSkies();
        whole.paint(1, 8, 77);
        for (int room = 0; room <= 8; room++) {
            RedSkies x = new RedSkies();
            for (int i = 0; i < 16 - room; i++) {
                plain(x, 0);
            }
            Due.due("8 into " + room, x.paint(1, 8, 77), 16);
            for (int i = 0; i < room; i++) {
                Due.due("the YEAR of " + i, x.about(16 - room + i, 2), whole.about(i, 2));
                Due.due("its last blue", x.about(16 - room + i, 21), whole.about(i, 21));
            }
        }
    }

    /** Promise 16: "15 more if it is NEAR by a WINDOW of 3 (at that time)" */
    private static void paintedNearAtThatTime() {
        RedSkies bare = new RedSkies();
        bare.paint(0, 1, 9);
        int year = bare.about(0, 2);
        for (int ahead = -1; ahead <= 4; ahead++) {
            RedSkies x = new RedSkies();
            x.mountain(year - ahead);
            x.paint(0, 1, 9);
            for (int what = 10; what <= 21; what++) {
                int more = ahead >= 0 && ahead <= 3 && what % 3 == 1 ? 15 : 0;
                Due.due("COLOUR " + what + ", " + ahead + " YEARS", x.about(0, what), bare.about(0, what) + more);
            }
        }
        int red = bare.about(0, 10);
        bare.mountain(year);
        Due.due("a MOUNTAIN told behind it", bare.about(0, 10), red);
    }

    /** Promise 16: "1103515245 times it and 12345, its rest by 2 to the 31": counted here 16 bits at a time. */
    private static void paintedSeedDoesNotWrap() {
        for (int seed : new int[] {0, 1, 2, 65535, 65536, 1 << 30, Integer.MAX_VALUE - 1, Integer.MAX_VALUE}) {
            long low = seed & 65535;
            long high = seed >>> 16;
            long next = (1103515245L * low + 12345 + (1103515245L * high % 65536 << 16)) & Integer.MAX_VALUE;
            RedSkies x = new RedSkies();
            x.paint(0, 1, seed);
            Due.due("YEAR by seed " + seed, x.about(0, 2), (next >>> 16) % 401);
        }
    }

    /** Promise 16: "again and again the next one": 14 DRAWS a PICTURE, so that a later SEED paints on alike. */
    private static void paintedSeedGoesOn() {
        RedSkies x = new RedSkies();
        x.paint(0, 8, 31);
        long seed = 31;
        for (int i = 0; i < 8; i++) {
            RedSkies alone = new RedSkies();
            alone.paint(0, 1, (int) seed);
            for (int what = 0; what <= 21; what++) {
                Due.due("PICTURE " + i + ", about " + what, x.about(i, what), alone.about(0, what));
            }
            for (int draw = 0; draw < 14; draw++) {
                seed = (1103515245L * seed + 12345) % 2147483648L;
            }
        }
    }

    /**
     * Promise 16: "YEAR a DRAW of 401, SPAN a DRAW of 4; .. red 20 and a DRAW of 40, .. green 20 and a DRAW of 40,
     * blue a DRAW of 60"
     */
    private static void paintedFromTheLeastToTheGreatestDraw() {
        int[] least = new int[22];
        int[] greatest = new int[22];
        Arrays.fill(least, 999);
        for (int seed = 0; seed < 900; seed++) {
            RedSkies x = new RedSkies();
            x.paint(seed % 5, 8, seed);
            for (int i = 0; i < 8; i++) {
                for (int what = 0; what <= 21; what++) {
                    least[what] = Math.min(least[what], x.about(i, what));
                    greatest[what] = Math.max(greatest[what], x.about(i, what));
                }
            }
        }
        for (int what = 10; what <= 21; what++) {
            Due.due("the least of " + what, least[what], what % 3 == 0 ? 0 : 20);
            Due.due("the greatest of " + what, greatest[what], 59);
        }
        Due.due("the first YEAR", least[2], 0);
        Due.due("the last YEAR", greatest[2], 400);
        Due.due("the least SPAN", least[3], 0);
        Due.due("the greatest SPAN", greatest[3], 3);
    }
}
