/** Promises 22 to 26, and of the law of dust: a test for each sentence that names an edge. The MEASURE is "r0/g0". */
public final class DustEdgesTest {
    private static final int NONE = Due.NONE;

    public static void main(String[] args) {
        iceClassesZeroToFive();
        iceHighIsNotLookedAtWithNone();
        iceOfTheFirstAndLastYear();
        iceFortyAtMost();
        classOfABoundItself();
        classesBelowZeroAndAboveAll();
        classesByGive();
        backIfNothingTells();
        backOfIceAlone();
        backOfJustThatYear();
        backWithSpanZero();
        backOfCountedPictures();
        backAlikeAtOneClass();
        backNoClassIsLeft();
        datesWithinZeroTo400();
        datesNotAheadOfSince();
        datesWithoutAny();
        datesByIceAlikeAtOneClass();
        datesOfACopy();
        wrongOfNone();
        wrongOfEachPicture();
        wrongByEachMeasure();
        Due.finish();
    }

    private static RedSkies under(String law) {
        RedSkies x = new RedSkies();
        Due.measure(x, "r0/g0");
        Due.law(x, law);
        return x;
    }

    private static void dueBack(String what, RedSkies x, int year, int low, int high) {
        Due.due(what + ": the least CLASS of " + year, x.back(0, year, 0), low);
        Due.due(what + ": the greatest CLASS of " + year, x.back(0, year, 1), high);
    }

    private static void dueClasses(String what, RedSkies x, int picture, int low, int high) {
        Due.due(what + ": the least CLASS", x.classes(0, picture, 0), low);
        Due.due(what + ": the greatest CLASS", x.classes(0, picture, 1), high);
    }

    private static void dueDates(String what, RedSkies x, int picture, int many, int first, int last) {
        Due.due(what + ": how many", x.dates(0, picture, 0), many);
        Due.due(what + ": the first", x.dates(0, picture, 1), first);
        Due.due(what + ": the last", x.dates(0, picture, 2), last);
    }

    /** Promise 22: "OUTSIDE: .. low, high (CLASSES, high not below low"; "(0 to 5)" */
    private static void iceClassesZeroToFive() {
        for (int low = -3; low <= 7; low++) {
            for (int high = -3; high <= 7; high++) {
                RedSkies x = under("1,2,3,4,5;0");
                boolean isTold = low >= 0 && high >= low && high <= 5;
                int want = isTold ? 1 : low == NONE ? 0 : Due.OUTSIDE;
                Due.due("ice(9, " + low + ", " + high + ")", x.ice(9, low, high), want);
                Due.due("YEARS of ICE", x.count(6), isTold ? 1 : 0);
                dueBack("ice(9, " + low + ", " + high + ")", x, 9, isTold ? low : 0, isTold ? high : 5);
            }
        }
    }

    /** Promise 22: "low NONE: it tells nothing of it any more"; "with low NONE high is not looked at" */
    private static void iceHighIsNotLookedAtWithNone() {
        for (int high : new int[] {Integer.MIN_VALUE, -2, -1, 0, 5, 6, Integer.MAX_VALUE}) {
            RedSkies x = under("1,2,3,4,5;0");
            x.ice(9, 2, 3);
            x.ice(10, 2, 3);
            Due.due("nothing any more", x.ice(9, NONE, high), 1);
            dueBack("nothing any more", x, 9, 0, 5);
            dueBack("the other YEAR", x, 10, 2, 3);
            Due.due("nothing any more again", x.ice(9, NONE, high), 1);
            Due.due("nothing any more of the last one", x.ice(10, NONE, high), 0);
            Due.due("nothing any more of none", x.ice(10, NONE, high), 0);
            Due.due("told anew", x.ice(9, 1, 1), 1);
            dueBack("told anew", x, 9, 1, 1);
        }
    }

    /** Promise 22: "OUTSIDE: year" */
    private static void iceOfTheFirstAndLastYear() {
        RedSkies x = under("1,2,3,4,5;0");
        Due.due("ice() of 0", x.ice(0, 1, 2), 1);
        Due.due("ice() of 400", x.ice(400, 3, 4), 2);
        dueBack("ice() of both", x, 0, 1, 2);
        dueBack("ice() of both", x, 400, 3, 4);
        dueBack("ice() of both", x, 1, 0, 5);
        dueBack("ice() of both", x, 399, 0, 5);
    }

    /** Promise 22: "how many YEARS it tells of (40 at most)"; "FULL" */
    private static void iceFortyAtMost() {
        RedSkies x = under("1,2,3,4,5;0");
        for (int i = 0; i < 40; i++) {
            Due.due("YEAR " + i, x.ice(400 - i, 1, 1), i + 1);
            Due.due("YEAR " + i + " again", x.ice(400 - i, 2, 2), i + 1);
        }
        Due.due("one more", x.ice(0, 0, 0), Due.FULL);
        dueBack("one more", x, 0, 0, 5);
        Due.due("one more, nothing of it", x.ice(0, NONE, 0), 40);
        Due.due("a told one at 40", x.ice(361, 4, 5), 40);
        dueBack("a told one at 40", x, 361, 4, 5);
        Due.due("one less", x.ice(361, NONE, 0), 39);
        Due.due("one more", x.ice(0, 0, 1), 40);
        Due.due("one more than 40", x.ice(361, 4, 5), Due.FULL);
    }

    /** Promise 23: "CLASS of a VALUE: how many BOUNDS are not above it" */
    private static void classOfABoundItself() {
        RedSkies x = under("100,200,300,400,500;0");
        for (int red = 0; red <= 6; red++) {
            int number = Due.red(x, 0, 0, red);
            dueClasses("VALUE " + 100 * red, x, number, Math.min(5, red), Math.min(5, red));
        }
        x = under("101,201,301,401,501;0");
        for (int red = 0; red <= 6; red++) {
            int number = Due.red(x, 0, 0, red);
            int due = red == 0 ? 0 : red - 1;
            dueClasses("VALUE " + 100 * red + " below the BOUND", x, number, due, due);
        }
    }

    /** Promise 23: "VALUE less GIVE" may be below 0; a VALUE may be far above 999. */
    private static void classesBelowZeroAndAboveAll() {
        RedSkies x = under("1,2,3,4,999;99");
        Due.red(x, 0, 0, 0);
        Due.red(x, 0, 0, 99);
        dueClasses("VALUE 0", x, 0, 0, 4);
        dueClasses("VALUE 9900", x, 1, 5, 5);
        x = under("1;0");
        Due.red(x, 0, 0, 0);
        dueClasses("VALUE 0, GIVE 0", x, 0, 0, 0);
        x = under("1;1");
        Due.red(x, 0, 0, 0);
        dueClasses("VALUE 0, GIVE 1", x, 0, 0, 1);
    }

    /** Promise 23: "may be of the CLASS of VALUE less GIVE to that of VALUE and GIVE" */
    private static void classesByGive() {
        for (int give = 0; give <= 99; give++) {
            RedSkies x = under("250,350;" + give);
            Due.red(x, 0, 0, 3);
            dueClasses("300, GIVE " + give, x, 0, give <= 50 ? 1 : 0, give >= 50 ? 2 : 1);
        }
    }

    /** Promise 24: "(0 and how many BOUNDS there are, if nothing tells)" */
    private static void backIfNothingTells() {
        String[] laws = {"9;0", "8,9;0", "7,8,9;0", "6,7,8,9;0", "5,6,7,8,9;0"};
        for (int i = 0; i < 5; i++) {
            RedSkies x = under(laws[i]);
            for (int year = 0; year <= 400; year += 50) {
                dueBack((i + 1) + " BOUNDS", x, year, 0, i + 1);
            }
        }
    }

    /** Promise 24: What ICE alone tells, beyond the BOUNDS, too. */
    private static void backOfIceAlone() {
        for (int low = 0; low <= 5; low++) {
            for (int high = low; high <= 5; high++) {
                RedSkies x = under("9;0");
                x.ice(200, low, high);
                dueBack("ICE alone", x, 200, low, high);
                dueBack("the YEAR ahead", x, 199, 0, 1);
                dueBack("the YEAR behind", x, 201, 0, 1);
            }
        }
    }

    /** Promise 24: "PICTURES of just that YEAR" */
    private static void backOfJustThatYear() {
        for (int year : new int[] {0, 200, 400}) {
            RedSkies x = under("100,200,300;0");
            Due.red(x, 0, year, 2);
            dueBack("its YEAR", x, year, 2, 2);
            dueBack("another YEAR", x, year == 0 ? 1 : year - 1, 0, 3);
            dueBack("another YEAR", x, year == 400 ? 399 : year + 1, 0, 3);
        }
    }

    /** Promise 24: "with SPAN 0" (that of a STUDY and of a WINDOW is) */
    private static void backWithSpanZero() {
        for (int kind = 0; kind <= 4; kind++) {
            for (int span = 0; span <= 20; span += 5) {
                RedSkies x = under("100,200,300;0");
                x.picture(kind, 4, 200, span, NONE, NONE);
                x.colour(0, 0, 0, 2);
                boolean tells = kind == 1 || kind == 2 || (kind != 3 && span == 0);
                dueBack("KIND " + kind + ", SPAN " + span, x, 200, tells ? 2 : 0, tells ? 2 : 3);
            }
        }
    }

    /** Promise 24: "all counted PICTURES": a COPY tells nothing. */
    private static void backOfCountedPictures() {
        RedSkies x = under("100,200,300;0");
        for (int i = 0; i < 15; i++) {
            x.picture(3, i % 5, 200, 0, NONE, NONE);
            x.colour(i, 0, 0, i % 4);
        }
        dueBack("COPIES", x, 200, 0, 3);
        Due.red(x, 4, 200, 1);
        dueBack("COPIES and the last PICTURE", x, 200, 1, 1);
        x.ice(200, 1, 2);
        dueBack("COPIES, the last PICTURE, ICE", x, 200, 1, 1);
    }

    /** Promise 24: "the CLASSES that ICE .. and all .. may have alike" */
    private static void backAlikeAtOneClass() {
        RedSkies x = under("150,250,350,450,550;99");
        Due.red(x, 0, 200, 2);
        dueBack("CLASSES 0 to 2", x, 200, 0, 2);
        Due.red(x, 1, 200, 3);
        dueBack("and 1 to 3", x, 200, 1, 2);
        x.ice(200, 2, 5);
        dueBack("and 2 to 5", x, 200, 2, 2);
        x.ice(200, 0, 1);
        dueBack("and 0 to 1", x, 200, 1, 1);
        x.ice(200, 0, 5);
        dueBack("and 0 to 5", x, 200, 1, 2);
        Due.red(x, 2, 200, 4);
        dueBack("and 2 to 4", x, 200, 2, 2);
    }

    /** Promise 24: "NONE: no CLASS is left" */
    private static void backNoClassIsLeft() {
        RedSkies x = under("100,200,300;0");
        Due.red(x, 0, 200, 1);
        x.ice(200, 2, 5);
        dueBack("ICE above the PICTURE", x, 200, NONE, NONE);
        x.ice(200, 0, 0);
        dueBack("ICE below the PICTURE", x, 200, NONE, NONE);
        x.ice(200, NONE, 0);
        dueBack("the PICTURE alone", x, 200, 1, 1);
        Due.red(x, 1, 200, 2);
        dueBack("two PICTURES", x, 200, NONE, NONE);
        x.ice(200, 1, 2);
        dueBack("two PICTURES, ICE of both", x, 200, NONE, NONE);
    }

    /** Promise 25: "YEARS of its SPAN (0 to 400)" */
    private static void datesWithinZeroTo400() {
        RedSkies x = under("9;0");
        int[] years = {0, 1, 19, 20, 21, 379, 380, 381, 399, 400};
        for (int i = 0; i < years.length; i++) {
            x.picture(0, 0, years[i], 20, NONE, NONE);
            int first = Math.max(0, years[i] - 20);
            int last = Math.min(400, years[i] + 20);
            dueDates("20 around " + years[i], x, i, last - first + 1, first, last);
        }
        for (int i = 10; i < 13; i++) {
            int span = i - 10;
            x.picture(0, 0, 200, span, NONE, NONE);
            dueDates("SPAN " + span, x, i, 2 * span + 1, 200 - span, 200 + span);
        }
    }

    /** Promise 25: "not ahead of SINCE of its PIGMENT" */
    private static void datesNotAheadOfSince() {
        for (int since = 190; since <= 212; since++) {
            RedSkies x = under("9;0");
            x.pigment(since, 0);
            x.picture(0, 0, 200, 10, NONE, 0);
            int first = Math.max(190, since);
            boolean isAny = since <= 210;
            dueDates("since " + since, x, 0, isAny ? 211 - first : 0, isAny ? first : NONE, isAny ? 210 : NONE);
        }
        for (int since : new int[] {0, 400}) {
            RedSkies x = under("9;0");
            x.pigment(since, 0);
            x.picture(0, 0, since, 0, NONE, 0);
            dueDates("since " + since + ", of that YEAR", x, 0, 1, since, since);
        }
    }

    /** Promise 25: "what = 0 how many, 1 the first, 2 the last (NONE: there are none)" */
    private static void datesWithoutAny() {
        RedSkies x = under("9;0");
        x.pigment(400, 0);
        x.picture(0, 0, 379, 20, NONE, 0);
        x.picture(0, 0, 380, 20, NONE, 0);
        x.picture(0, 0, 380, 20, NONE, NONE);
        dueDates("one YEAR too early", x, 0, 0, NONE, NONE);
        dueDates("just not too early", x, 1, 1, 400, 400);
        dueDates("without the PIGMENT", x, 2, 41, 360, 400);
        x.ice(400, 1, 5);
        dueDates("and ICE of none alike", x, 1, 0, NONE, NONE);
        dueDates("without the PIGMENT", x, 2, 40, 360, 399);
    }

    /** Promise 25: "whose ICE (if it tells) has a CLASS alike with it" */
    private static void datesByIceAlikeAtOneClass() {
        for (int low = 0; low <= 5; low++) {
            for (int high = low; high <= 5; high++) {
                RedSkies x = under("150,250,350,450,550;50");
                x.picture(0, 0, 200, 1, NONE, NONE);
                x.colour(0, 0, 0, 3);
                dueClasses("VALUE 300", x, 0, 2, 3);
                x.ice(199, low, high);
                boolean isAlike = low <= 3 && high >= 2;
                dueDates("ICE of the first YEAR", x, 0, isAlike ? 3 : 2, isAlike ? 199 : 200, 201);
                x.ice(201, low, high);
                dueDates("ICE of both ends", x, 0, isAlike ? 3 : 1, isAlike ? 199 : 200, isAlike ? 201 : 200);
                x.ice(200, low, high);
                dueDates("ICE of all", x, 0, isAlike ? 3 : 0, isAlike ? 199 : NONE, isAlike ? 201 : NONE);
            }
        }
    }

    /** Promise 25: A COPY has CLASSES and DATES like any PICTURE. */
    private static void datesOfACopy() {
        RedSkies x = under("100,200;0");
        x.pigment(195, 0);
        x.picture(3, 0, 200, 10, NONE, 0);
        x.colour(0, 0, 0, 1);
        dueClasses("a COPY", x, 0, 1, 1);
        x.ice(195, 0, 0);
        x.ice(210, 2, 2);
        dueDates("a COPY", x, 0, 14, 196, 209);
    }

    /** Promise 26: "WRONG, as bits of PICTURES": none are. */
    private static void wrongOfNone() {
        RedSkies x = under("9;0");
        Due.due("without PICTURES", x.wrong(0), 0);
        for (int i = 0; i < 16; i++) {
            x.picture(i % 5, 0, 25 * i, 0, NONE, NONE);
            Due.due("of " + (i + 1) + " with DATES", x.wrong(0), 0);
        }
    }

    /** Promise 26: "PICTURES (COPIES, too) without DATES", "as bits of PICTURES" */
    private static void wrongOfEachPicture() {
        for (int kind = 0; kind <= 4; kind++) {
            for (int place = 0; place < 16; place++) {
                RedSkies x = under("9;0");
                x.pigment(200, 0);
                for (int i = 0; i < 16; i++) {
                    x.picture(kind, 0, i == place ? 199 : 200, 0, NONE, 0);
                }
                Due.due("PICTURE " + place + " of KIND " + kind, x.wrong(0), 1 << place);
            }
        }
        RedSkies x = under("9;0");
        x.pigment(400, 0);
        for (int i = 0; i < 16; i++) {
            x.picture(3, 0, 379, 20, NONE, 0);
        }
        Due.due("all of them", x.wrong(0), 65535);
    }

    /** Promise 26: By each MEASURE a PICTURE has other CLASSES. */
    private static void wrongByEachMeasure() {
        RedSkies x = under("100,200;0");
        Due.measure(x, "g0/r0");
        Due.red(x, 0, 200, 1);
        Due.red(x, 0, 201, 1);
        x.ice(200, 1, 1);
        x.ice(201, 0, 0);
        Due.due("wrong(0)", x.wrong(0), 2);
        Due.due("wrong(1)", x.wrong(1), 1);
        Due.due("wrong(2)", x.wrong(2), Due.UNKNOWN);
    }
}
