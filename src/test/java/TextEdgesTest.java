/** Promises 1 to 7, and of the Terms LAMPS, MEASURES and THE LAW: a test for each sentence that names an edge. */
public final class TextEdgesTest {
    private static final String LONGEST = "r0123+r0123+r0123+r0123/r0123+r0123+r012";

    public static void main(String[] args) {
        newObjectHasNoneOfAll();
        newObjectHasNoLawAndNoIce();
        objectsAreApart();
        upToEightLettersLowestByteFirst();
        untilAByteThatIsZero();
        byteAbove126();
        byteBehindAZero();
        pageOfFortyLetters();
        blankEmptiesAnyPage();
        faultOfAnEmptyPage();
        faultAtTheFirstAndLastPlace();
        faultOfEachSortApart();
        lampOfOneToThreeItems();
        lampColourAtMostOnce();
        lampNumberZeroToTwenty();
        lampNumberWithoutAZeroAhead();
        lampTellsOfItsOwnItemsOnly();
        lampPageIsEmptyThen();
        lampsFourAtMost();
        measureOfOneToFourTerms();
        measureOfOneToFourParts();
        measurePartsEachGreater();
        measureOfJustTwoSums();
        measurePageIsEmptyThen();
        measuresFourAtMost();
        lawOfOneToFiveBounds();
        lawBoundOneTo999();
        lawBoundWithoutAZeroAhead();
        lawBoundsEachGreater();
        lawBoundThatCannotBeGreaterAnyMore();
        lawGiveZeroTo99();
        lawAnotherOneIsGone();
        Due.finish();
    }

    /** Promise 1: "No LAMPS, PIGMENTS, PICTURES, MEASURES, MOUNTAINS" */
    private static void newObjectHasNoneOfAll() {
        for (int what = 0; what <= 8; what++) {
            Due.due("new: count(" + what + ")", new RedSkies().count(what), 0);
        }
        Due.due("new: no LAMP", new RedSkies().picture(0, 0, 0, 0, 0, -1), Due.UNKNOWN);
        Due.due("new: no PIGMENT", new RedSkies().picture(0, 0, 0, 0, -1, 0), Due.UNKNOWN);
        Due.due("new: no PICTURE", new RedSkies().about(0, 0), Due.UNKNOWN);
        Due.due("new: no MEASURE", new RedSkies().stat(0, 0), -1001);
        Due.due("new: the first MOUNTAIN", new RedSkies().mountain(7), 0);
        RedSkies x = new RedSkies();
        for (int year = 0; year <= 400; year += 200) {
            Due.due("the first PICTURES", x.picture(0, 0, year, 0, -1, -1), year / 200);
            Due.due("new: no MOUNTAIN near " + year, x.near(year / 200, 9), 0);
        }
    }

    /** Promise 1: "no LAW, no ICE" */
    private static void newObjectHasNoLawAndNoIce() {
        for (int end = 0; end <= 1; end++) {
            RedSkies x = new RedSkies();
            Due.measure(x, "r0/g0");
            Due.due("new: no LAW", x.back(0, 0, end), Due.STATE);
            Due.law(x, "9;0");
            for (int year = 0; year <= 400; year++) {
                Due.due("new: no ICE of " + year, x.back(0, year, end), end);
            }
        }
    }

    /** Promise 1: A new object has nothing, whatever was told to another one. */
    private static void objectsAreApart() {
        RedSkies before = new RedSkies();
        World.full(new Calls(new RedSkies()), null);
        Due.due("an object beside a full one", before.digest(), new RedSkies().digest());
        for (int what = 0; what <= 8; what++) {
            Due.due("an object beside a full one", new RedSkies().count(what), 0);
        }
    }

    /** Promise 2: "up to eight, told by their codes in the bytes of w, the lowest byte first" */
    private static void upToEightLettersLowestByteFirst() {
        RedSkies x = new RedSkies();
        Due.due("eight letters", x.letters(Due.packed("r+1g-2b+")), 8);
        Due.due("one letter", x.letters('3'), 9);
        Due.due("in their order", x.fault(0), 9);
        Due.due("a LAMP", x.lamp(), 0);
        Due.due("highest byte first", x.letters('1' | '+' << 8 | 'r' << 16), 3);
        Due.due("is no LAMP", x.fault(0), 0);
        for (int many = 0; many <= 8; many++) {
            Due.due(many + " letters", new RedSkies().letters(Due.packed("aaaaaaaa".substring(0, many))), many);
        }
    }

    /** Promise 2: "until a byte that is 0: how many THE PAGE has" */
    private static void untilAByteThatIsZero() {
        RedSkies x = new RedSkies();
        Due.due("a 0 alone", x.letters(0), 0);
        Due.due("three, then 0", x.letters(Due.packed("abc")), 3);
        Due.due("a 0 alone", x.letters(0), 3);
        Due.due("two, then 0", x.letters(Due.packed("de")), 5);
    }

    /** Promise 2: "OUTSIDE: a byte above 126" */
    private static void byteAbove126() {
        for (int place = 0; place < 8; place++) {
            long ahead = place == 0 ? 0 : 0x6161616161616161L >>> 8 * (8 - place);
            for (int code = 1; code <= 255; code++) {
                RedSkies x = new RedSkies();
                long got = x.letters(ahead | (long) code << 8 * place);
                Due.due("byte " + code + " at " + place, got, code > 126 ? Due.OUTSIDE : place + 1);
                Due.due("letters behind it", x.count(7), code > 126 ? 0 : place + 1);
            }
        }
    }

    /** Promise 2: "or one behind a 0 that is not 0" */
    private static void byteBehindAZero() {
        for (int zero = 0; zero < 7; zero++) {
            for (int place = zero + 1; place < 8; place++) {
                long ahead = zero == 0 ? 0 : 0x6161616161616161L >>> 8 * (8 - zero);
                Due.due("0 at " + zero + ", a letter at " + place,
                        new RedSkies().letters(ahead | 1L << 8 * place), Due.OUTSIDE);
            }
        }
    }

    /** Promise 2: "FULL: above 40" */
    private static void pageOfFortyLetters() {
        for (int many = 32; many <= 40; many++) {
            RedSkies x = new RedSkies();
            Due.put(x, LONGEST.substring(0, many));
            for (int more = 0; more <= 8; more++) {
                if (many + more > 40) {
                    Due.due(many + " and " + more, x.letters(Due.packed("aaaaaaaa".substring(0, more))), Due.FULL);
                }
            }
            Due.due("none of them has come", x.fault(1), many);
            Due.due("up to 40", x.letters(Due.packed("12345678".substring(0, 40 - many))), 40);
        }
    }

    /** Promise 3: "THE PAGE is empty: how many letters it had" */
    private static void blankEmptiesAnyPage() {
        RedSkies x = new RedSkies();
        Due.due("blank() of an empty PAGE", x.blank(), 0);
        Due.put(x, LONGEST);
        Due.due("blank() of a full PAGE", x.blank(), 40);
        Due.due("blank() again", x.blank(), 0);
        Due.put(x, LONGEST);
        Due.due("it is full again", x.letters('a'), Due.FULL);
    }

    /** Promise 4: "how many letters it has, if there is none" */
    private static void faultOfAnEmptyPage() {
        for (int sort = 0; sort <= 2; sort++) {
            Due.due("fault(" + sort + ") of an empty PAGE", new RedSkies().fault(sort), 0);
        }
    }

    /** Promise 4: "The place (from 0) of the first letter of THE PAGE that no .. has there, behind those ahead of it" */
    private static void faultAtTheFirstAndLastPlace() {
        faults(0, "xr+1", 0);
        faults(1, "xr0/g0", 0);
        faults(2, "x1;0", 0);
        faults(1, LONGEST.substring(0, 39) + "x", 39);
        faults(1, LONGEST, 40);
        faults(1, "x" + LONGEST.substring(0, 39), 0);
        faults(1, "r0/g0x/x", 5);
    }

    /** Promise 4: "no LAMP (sort 0), MEASURE (1), LAW (2) has there" */
    private static void faultOfEachSortApart() {
        String[] texts = {"r+1", "r1/b2", "1,2;3"};
        int[][] due = {{3, 1, 0}, {1, 5, 0}, {0, 0, 5}};
        for (int i = 0; i < 3; i++) {
            for (int sort = 0; sort < 3; sort++) {
                faults(sort, texts[i], due[i][sort]);
            }
        }
    }

    private static void faults(int sort, String text, int place) {
        RedSkies x = new RedSkies();
        Due.put(x, text);
        Due.due("fault(" + sort + ") of " + text, x.fault(sort), place);
    }

    /** The text is one of the sort: no fault, and it is read. */
    private static void reads(int sort, String text) {
        faults(sort, text, text.length());
        RedSkies x = new RedSkies();
        Due.put(x, text);
        int bounds = sort < 2 ? 0 : text.split(",").length;
        Due.due("reading " + text, sort == 0 ? x.lamp() : sort == 1 ? x.measure() : x.law(), bounds);
    }

    /** The text is none of the sort: a fault at the place (its length: it only stops short). */
    private static void fails(int sort, String text, int place) {
        faults(sort, text, place);
        RedSkies x = new RedSkies();
        Due.put(x, text);
        Due.due("reading " + text, sort == 0 ? x.lamp() : sort == 1 ? x.measure() : x.law(), Due.STATE);
        Due.due("letters behind it", x.count(7), text.length());
    }

    /** Promises 4, 5: "one to three ITEMS, one behind the other: a COLOUR, "+" or "-", a number" */
    private static void lampOfOneToThreeItems() {
        fails(0, "", 0);
        reads(0, "r+1");
        reads(0, "g-1b+1");
        reads(0, "b-1r-1g-1");
        fails(0, "b-1r-1g-1b", 9);
        fails(0, "b-1r-1g-1+", 9);
        fails(0, "r", 1);
        fails(0, "r+", 2);
        fails(0, "r+1g", 4);
        fails(0, "r+1g-", 5);
        fails(0, "r1", 1);
        fails(0, "r++1", 2);
        fails(0, "r+1+g+1", 3);
    }

    /** Promises 4, 5: "(r, g, b; each at most once)" */
    private static void lampColourAtMostOnce() {
        for (char colour : "rgb".toCharArray()) {
            fails(0, colour + "+1" + colour + "+1", 3);
            fails(0, colour + "+20" + colour, 4);
        }
        fails(0, "r+1g+1r+1", 6);
        fails(0, "r+1g+1g+1", 6);
        for (String other : new String[] {"a", "R", "B", "c", "q", "s", "f", "h"}) {
            fails(0, other + "+1", 0);
            fails(0, "r+1" + other + "+1", 3);
        }
    }

    /** Promises 4, 5: "a number (0 to 20" */
    private static void lampNumberZeroToTwenty() {
        for (int number = 0; number <= 99; number++) {
            if (number <= 20) {
                reads(0, "g-" + number);
            } else {
                fails(0, "g-" + number, 3);
            }
        }
        for (int number = 100; number <= 209; number++) {
            fails(0, "g+" + number, 4);
        }
    }

    /** Promises 4, 5: "without a 0 ahead" */
    private static void lampNumberWithoutAZeroAhead() {
        for (int digit = 0; digit <= 9; digit++) {
            fails(0, "b+0" + digit, 3);
        }
        reads(0, "b+0r+0");
    }

    /** Promise 5: Nothing of a text that was looked at ahead of it comes into a LAMP. */
    private static void lampTellsOfItsOwnItemsOnly() {
        RedSkies x = new RedSkies();
        Due.lamp(x, "r+1g+2b+3");
        Due.put(x, "g+20b-20");
        Due.due("fault(0)", x.fault(0), 8);
        x.blank();
        Due.lamp(x, "r-4");
        x.picture(0, 0, 0, 0, 1, Due.NONE);
        for (int colour = 0; colour < 3; colour++) {
            x.colour(0, 0, colour, 50);
            Due.due("COLOUR " + colour + " under r-4", x.about(0, 10 + colour), colour == 0 ? 54 : 50);
        }
    }

    /** Promise 5: "THE PAGE is empty then" */
    private static void lampPageIsEmptyThen() {
        RedSkies x = new RedSkies();
        Due.lamp(x, "r+1");
        Due.due("letters behind lamp()", x.count(7), 0);
        Due.due("lamp() of an empty PAGE", x.lamp(), Due.STATE);
    }

    /** Promise 5: "LAMPS (4 at most, numbered)" */
    private static void lampsFourAtMost() {
        RedSkies x = new RedSkies();
        for (int i = 0; i < 4; i++) {
            Due.due("LAMP " + i, Due.lamp(x, "r+" + i), i);
            Due.due("count(0)", x.count(0), i + 1);
            Due.due("a PICTURE under LAMP " + i, x.picture(0, 0, 0, 0, i, -1), i);
            Due.due("a PICTURE under the next one", x.picture(0, 0, 0, 0, i + 1, -1), Due.UNKNOWN);
        }
        Due.put(x, "r+4");
        Due.due("a fifth LAMP", x.lamp(), Due.FULL);
        Due.due("count(0)", x.count(0), 4);
        Due.due("THE PAGE stays", x.fault(0), 3);
        Due.due("count(7)", x.count(7), 3);
    }

    /** Promises 4, 6: "one to four TERMS with "+" between" */
    private static void measureOfOneToFourTerms() {
        reads(1, "r0/g0");
        reads(1, "r0+r0+r0+r0/g0");
        reads(1, "r0/g0+g0+g0+g0");
        reads(1, "r0+g1+b2+r3/g0+b1+r2+g3");
        fails(1, "r0+r0+r0+r0+r0/g0", 11);
        fails(1, "r0/g0+g0+g0+g0+g0", 14);
        fails(1, "/g0", 0);
        fails(1, "r0/", 3);
        fails(1, "r0/+g0", 3);
        fails(1, "r0++r0/g0", 3);
        fails(1, "r0+/g0", 3);
        fails(1, "r0r0/g0", 2);
        fails(1, "r0-r0/g0", 2);
        fails(1, "r0/g0+", 6);
    }

    /** Promises 4, 6: "a COLOUR (r, g, b) and one to four PARTS (0 to 3" */
    private static void measureOfOneToFourParts() {
        fails(1, "r/g0", 1);
        fails(1, "r+r0/g0", 1);
        fails(1, "r0/g", 4);
        reads(1, "r0123/g0123");
        fails(1, "r01233/g0", 5);
        for (int digit = 0; digit <= 9; digit++) {
            if (digit <= 3) {
                reads(1, "b" + digit + "/r" + digit);
            } else {
                fails(1, "b" + digit + "/r0", 1);
                fails(1, "b0/r" + digit, 4);
            }
        }
    }

    /** Promises 4, 6: "each greater than the one ahead" */
    private static void measurePartsEachGreater() {
        for (int first = 0; first <= 3; first++) {
            for (int second = 0; second <= 4; second++) {
                if (second > first && second <= 3) {
                    reads(1, "g" + first + second + "/r0");
                    reads(1, "r0/g" + first + second);
                } else {
                    fails(1, "g" + first + second + "/r0", 2);
                    fails(1, "r0/g" + first + second, 5);
                }
            }
        }
        reads(1, "g3+g0/b3+b0");
        reads(1, "g3+g3/b3+b3");
    }

    /** Promises 4, 6: "a SUM, "/", a SUM" */
    private static void measureOfJustTwoSums() {
        fails(1, "", 0);
        fails(1, "r0", 2);
        fails(1, "r0+g0", 5);
        fails(1, "r0/g0/b0", 5);
        fails(1, "r0/g0+b0/", 8);
    }

    /** Promise 6: "THE PAGE is empty then" */
    private static void measurePageIsEmptyThen() {
        RedSkies x = new RedSkies();
        Due.measure(x, LONGEST);
        Due.due("letters behind measure()", x.count(7), 0);
        Due.due("measure() of an empty PAGE", x.measure(), Due.STATE);
    }

    /** Promise 6: "MEASURES (4 at most, numbered)" */
    private static void measuresFourAtMost() {
        RedSkies x = new RedSkies();
        Due.red(x, 0, 0, 1);
        for (int i = 0; i < 4; i++) {
            Due.due("MEASURE " + i, Due.measure(x, "r0+r0+r0+r0".substring(0, 2 + 3 * i) + "/g0"), i);
            Due.due("VALUE by MEASURE " + i, x.value(i, 0), 100 * (i + 1));
            Due.due("VALUE by the next one", x.value(i + 1, 0), Due.UNKNOWN);
        }
        Due.put(x, "r0/g0");
        Due.due("a fifth MEASURE", x.measure(), Due.FULL);
        Due.due("count(3)", x.count(3), 4);
        Due.due("count(7)", x.count(7), 5);
        Due.due("the fourth one stays", x.value(3, 0), 400);
    }

    /** Promises 4, 7: "one to five BOUNDS .. with "," between, ";", GIVE" */
    private static void lawOfOneToFiveBounds() {
        fails(2, "", 0);
        fails(2, ";0", 0);
        reads(2, "7;0");
        reads(2, "1,2,3,4,5;0");
        fails(2, "1,2,3,4,5,6;0", 9);
        fails(2, "1", 1);
        fails(2, "1,", 2);
        fails(2, "1,,2;0", 2);
        fails(2, "1,;0", 2);
        fails(2, ",1;0", 0);
        fails(2, "1;", 2);
        fails(2, "1;0;", 3);
        fails(2, "1;0,", 3);
        fails(2, "1;5;", 3);
        fails(2, "1;5,", 3);
    }

    /** Promises 4, 7: "(1 to 999" */
    private static void lawBoundOneTo999() {
        fails(2, "0;0", 0);
        for (int bound : new int[] {1, 2, 9, 10, 99, 100, 998, 999}) {
            reads(2, bound + ";0");
        }
        fails(2, "1000;0", 3);
        fails(2, "9999;0", 3);
        fails(2, "5,1000;0", 5);
    }

    /** Promises 4, 7: "without a 0 ahead" */
    private static void lawBoundWithoutAZeroAhead() {
        fails(2, "01;0", 0);
        fails(2, "5,07;0", 2);
        fails(2, "5,0;0", 2);
        reads(2, "10,100;0");
    }

    /** Promises 4, 7: "each greater than the one ahead)" */
    private static void lawBoundsEachGreater() {
        for (int first = 1; first <= 12; first++) {
            for (int second = 1; second <= 12; second++) {
                if (second > first) {
                    reads(2, first + "," + second + ";0");
                } else {
                    String bounds = first + "," + second;
                    fails(2, bounds + ";0", bounds.length());
                }
            }
        }
        fails(2, "998,999,999;0", 7);
    }

    /** Promise 4: "(a BOUND that cannot be greater than the one ahead any more cannot stand)" */
    private static void lawBoundThatCannotBeGreaterAnyMore() {
        faults(2, "200,1", 4);
        faults(2, "199,1", 4);
        faults(2, "198,1", 5);
        faults(2, "200,2", 5);
        faults(2, "209,20", 4 + 1);
        faults(2, "208,20", 6);
        faults(2, "209,209", 5);
        faults(2, "208,208", 6);
        faults(2, "208,209", 7);
        faults(2, "99,9", 4);
        faults(2, "99,99", 5);
        faults(2, "99,9;", 4);
        faults(2, "99,100", 6);
        faults(2, "998,", 4);
        faults(2, "998,998", 6);
        faults(2, "999,", 3);
        faults(2, "999,1", 3);
        faults(2, "1,999,", 5);
    }

    /** Promises 4, 7: "GIVE (0 to 99, likewise)" */
    private static void lawGiveZeroTo99() {
        for (int give = 0; give <= 99; give++) {
            reads(2, "5;" + give);
        }
        for (int give = 100; give <= 109; give++) {
            fails(2, "5;" + give, 4);
        }
        fails(2, "5;990", 4);
        for (int digit = 0; digit <= 9; digit++) {
            fails(2, "5;0" + digit, 3);
        }
        fails(2, "5;-1", 2);
    }

    /** Promise 7: "(another one is gone): how many BOUNDS; THE PAGE is empty then" */
    private static void lawAnotherOneIsGone() {
        RedSkies x = new RedSkies();
        Due.measure(x, "r0/g0");
        Due.red(x, 0, 0, 4);
        Due.due("five BOUNDS", Due.law(x, "100,200,300,400,500;99"), 5);
        Due.due("letters behind law()", x.count(7), 0);
        Due.due("law() of an empty PAGE", x.law(), Due.STATE);
        Due.due("CLASSES by five BOUNDS", 10 * x.classes(0, 0, 0) + x.classes(0, 0, 1), 34);
        for (int bound = 399; bound <= 401; bound++) {
            Due.due("one BOUND", Due.law(x, bound + ";0"), 1);
            Due.due("count(5)", x.count(5), 1);
            Due.due("CLASSES by one BOUND", 10 * x.classes(0, 0, 0) + x.classes(0, 0, 1), bound > 400 ? 0 : 11);
        }
        Due.due("two BOUNDS", Due.law(x, "2,400;1"), 2);
        Due.due("CLASSES by two BOUNDS", 10 * x.classes(0, 0, 0) + x.classes(0, 0, 1), 12);
    }
}
