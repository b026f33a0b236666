/** Promises 22 to 26: ICE, CLASSES, BACK, DATES, WRONG. */
public final class DustTest {
    private static final int LEAST = Integer.MIN_VALUE;

    public static void main(String[] args) {
        ice();
        iceIsFull();
        classes();
        classRefusals();
        back();
        backFromIceBeyondTheLaw();
        backRefusals();
        dates();
        datesByPigmentAndIce();
        dateRefusals();
        wrong();
        Due.finish();
    }

    private static void ice() {
        RedSkies x = new RedSkies();
        Due.due("ice(7, 0, 5)", x.ice(7, 0, 5), 1);
        Due.due("ice(7, 2, 2) again", x.ice(7, 2, 2), 1);
        Due.due("ice(0, 0, 0)", x.ice(0, 0, 0), 2);
        Due.due("ice(400, 5, 5)", x.ice(400, 5, 5), 3);
        long digest = x.digest();
        Due.due("year -1", x.ice(-1, 0, 0), Due.OUTSIDE);
        Due.due("year 401", x.ice(401, 0, 0), Due.OUTSIDE);
        Due.due("year 401, NONE", x.ice(401, -1, 0), Due.OUTSIDE);
        Due.due("low -2", x.ice(1, -2, 0), Due.OUTSIDE);
        Due.due("low 6", x.ice(1, 6, 6), Due.OUTSIDE);
        Due.due("high 6", x.ice(1, 5, 6), Due.OUTSIDE);
        Due.due("high -1", x.ice(1, 0, -1), Due.OUTSIDE);
        Due.due("high below low", x.ice(1, 3, 2), Due.OUTSIDE);
        Due.due("high below low of a told YEAR", x.ice(7, 3, 2), Due.OUTSIDE);
        Due.unchanged("ice() refused", x, digest);
        Due.due("nothing any more of an untold YEAR", x.ice(8, -1, 0), 3);
        Due.unchanged("nothing any more of an untold YEAR", x, digest);
        Due.due("nothing any more, high not looked at", x.ice(7, -1, LEAST), 2);
        Due.due("again", x.ice(7, -1, 99), 2);
        Due.due("count(6)", x.count(6), 2);
    }

    private static void iceIsFull() {
        RedSkies x = new RedSkies();
        for (int i = 0; i < 40; i++) {
            Due.due("ice() " + i, x.ice(10 * i, 1, 2), i + 1);
        }
        long digest = x.digest();
        Due.due("ice() beyond 40", x.ice(5, 1, 2), Due.FULL);
        Due.due("ice() beyond 40, outside", x.ice(5, 2, 1), Due.OUTSIDE);
        Due.unchanged("ice() refused", x, digest);
        Due.due("a told YEAR at 40", x.ice(10, 0, 5), 40);
        Due.due("one less", x.ice(10, -1, 0), 39);
        Due.due("one more", x.ice(5, 1, 2), 40);
    }

    /** One plain PICTURE of 100 by HAND 0; its VALUE by "r0/g0" is 100 times red. */
    private static RedSkies one(String law, int red) {
        RedSkies x = new RedSkies();
        Due.measure(x, "r0/g0");
        Due.law(x, law);
        Due.red(x, 0, 100, red);
        return x;
    }

    private static void dueClasses(String law, int red, int low, int high) {
        RedSkies x = one(law, red);
        Due.due("classes() by " + law + " of " + red, x.classes(0, 0, 0), low);
        Due.due("classes() by " + law + " of " + red, x.classes(0, 0, 1), high);
    }

    private static void classes() {
        dueClasses("100,200,300;0", 0, 0, 0);
        dueClasses("100,200,300;0", 1, 1, 1);
        dueClasses("101,200,300;0", 1, 0, 0);
        dueClasses("101,200,300;1", 1, 0, 1);
        dueClasses("100,200,300;1", 1, 0, 1);
        dueClasses("100,199,300;1", 2, 2, 2);
        dueClasses("100,200,300;99", 3, 2, 3);
        dueClasses("205,210,290,299,300;99", 3, 0, 5);
        dueClasses("1,2,3,4,5;99", 0, 0, 5);
        dueClasses("1,2,3,4,5;0", 9, 5, 5);
    }

    private static void classRefusals() {
        RedSkies x = new RedSkies();
        Due.due("classes() of none", x.classes(0, 0, 9), Due.UNKNOWN);
        Due.measure(x, "r0/g0");
        Due.due("classes() without a PICTURE", x.classes(0, 0, 9), Due.UNKNOWN);
        Due.red(x, 0, 100, 5);
        Due.due("end 2 without a LAW", x.classes(0, 0, 2), Due.OUTSIDE);
        Due.due("end -1 without a LAW", x.classes(0, 0, -1), Due.OUTSIDE);
        Due.due("classes() without a LAW", x.classes(0, 0, 1), Due.STATE);
        Due.due("measure 1", x.classes(1, 0, 1), Due.UNKNOWN);
        Due.due("measure -1", x.classes(-1, 0, 1), Due.UNKNOWN);
        Due.due("picture 1", x.classes(0, 1, 1), Due.UNKNOWN);
        Due.due("picture -1", x.classes(0, -1, 1), Due.UNKNOWN);
    }

    private static void dueBack(RedSkies x, int year, int low, int high) {
        Due.due("back(0, " + year + ", 0)", x.back(0, year, 0), low);
        Due.due("back(0, " + year + ", 1)", x.back(0, year, 1), high);
    }

    private static void back() {
        RedSkies x = one("150,250,350,450;99", 2);
        dueBack(x, 99, 0, 4);
        dueBack(x, 100, 0, 2);
        x.picture(0, 4, 100, 0, -1, -1);
        x.colour(1, 0, 0, 3);
        dueBack(x, 100, 1, 2);
        x.picture(0, 1, 100, 1, -1, -1);
        x.picture(3, 1, 100, 0, -1, -1);
        x.picture(0, 1, 101, 0, -1, -1);
        dueBack(x, 100, 1, 2);
        x.ice(100, 2, 4);
        dueBack(x, 100, 2, 2);
        x.ice(100, 0, 1);
        dueBack(x, 100, 1, 1);
        x.ice(100, 3, 4);
        dueBack(x, 100, Due.NONE, Due.NONE);
        x.ice(100, -1, 4);
        dueBack(x, 100, 1, 2);
        x.picture(1, 1, 100, 20, -1, -1);
        dueBack(x, 100, Due.NONE, Due.NONE);
        x.ice(50, 1, 3);
        dueBack(x, 50, 1, 3);
        dueBack(x, 0, 0, 4);
        dueBack(x, 400, 0, 4);
    }

    /** ICE may tell of CLASSES that THE LAW does not have. */
    private static void backFromIceBeyondTheLaw() {
        RedSkies x = one("150;50", 1);
        dueBack(x, 50, 0, 1);
        x.ice(50, 0, 5);
        dueBack(x, 50, 0, 5);
        x.ice(50, 1, 2);
        dueBack(x, 50, 1, 2);
        x.ice(50, 2, 5);
        dueBack(x, 50, 2, 5);
        x.picture(3, 0, 50, 0, -1, -1);
        x.picture(0, 0, 50, 1, -1, -1);
        dueBack(x, 50, 2, 5);
        x.ice(50, -1, 0);
        dueBack(x, 50, 0, 1);
        dueBack(x, 100, 0, 1);
        x.ice(100, 0, 5);
        dueBack(x, 100, 0, 1);
        x.ice(100, 1, 5);
        dueBack(x, 100, 1, 1);
        x.ice(100, 2, 5);
        dueBack(x, 100, Due.NONE, Due.NONE);
        x.ice(400, 5, 5);
        x.ice(0, 5, 5);
        dueBack(x, 400, 5, 5);
        dueBack(x, 0, 5, 5);
        Due.law(x, "1,2,3;0");
        dueBack(x, 400, 5, 5);
    }

    private static void backRefusals() {
        RedSkies x = new RedSkies();
        Due.due("back() of none", x.back(0, 999, 9), Due.UNKNOWN);
        Due.measure(x, "r0/g0");
        Due.due("year -1", x.back(0, -1, 0), Due.OUTSIDE);
        Due.due("year 401", x.back(0, 401, 0), Due.OUTSIDE);
        Due.due("end -1", x.back(0, 0, -1), Due.OUTSIDE);
        Due.due("end 2", x.back(0, 0, 2), Due.OUTSIDE);
        Due.due("back() without a LAW", x.back(0, 0, 0), Due.STATE);
        Due.law(x, "5;0");
        Due.due("measure 1", x.back(1, 0, 0), Due.UNKNOWN);
        Due.due("measure -1", x.back(-1, 0, 0), Due.UNKNOWN);
    }

    private static void dueDates(RedSkies x, int picture, int many, int first, int last) {
        Due.due("dates(0, " + picture + ", 0)", x.dates(0, picture, 0), many);
        Due.due("dates(0, " + picture + ", 1)", x.dates(0, picture, 1), first);
        Due.due("dates(0, " + picture + ", 2)", x.dates(0, picture, 2), last);
    }

    private static void dates() {
        RedSkies x = one("100;0", 1);
        x.picture(0, 0, 100, 20, -1, -1);
        x.picture(0, 0, 3, 5, -1, -1);
        x.picture(4, 0, 398, 5, -1, -1);
        x.picture(1, 0, 200, 5, -1, -1);
        x.picture(3, 0, 200, 5, -1, -1);
        dueDates(x, 0, 1, 100, 100);
        dueDates(x, 1, 41, 80, 120);
        dueDates(x, 2, 9, 0, 8);
        dueDates(x, 3, 8, 393, 400);
        dueDates(x, 4, 1, 200, 200);
        dueDates(x, 5, 11, 195, 205);
    }

    private static void datesByPigmentAndIce() {
        RedSkies x = one("100,200,300,400;50", 2);
        x.pigment(98, 0);
        x.pigment(106, 0);
        x.pigment(105, 0);
        for (int pigment = 0; pigment < 3; pigment++) {
            x.picture(0, 0, 100, 5, -1, pigment);
            x.colour(pigment + 1, 0, 0, 2);
        }
        dueDates(x, 1, 8, 98, 105);
        dueDates(x, 2, 0, Due.NONE, Due.NONE);
        dueDates(x, 3, 1, 105, 105);
        // CLASSES 1 to 2.
        x.ice(98, 0, 0);
        x.ice(99, 0, 1);
        x.ice(100, 2, 5);
        x.ice(101, 3, 4);
        x.ice(105, 3, 3);
        dueDates(x, 1, 5, 99, 104);
        dueDates(x, 3, 0, Due.NONE, Due.NONE);
        dueDates(x, 0, 1, 100, 100);
        x.ice(100, 0, 0);
        dueDates(x, 0, 0, Due.NONE, Due.NONE);
        x.ice(105, -1, 0);
        dueDates(x, 3, 1, 105, 105);
    }

    private static void dateRefusals() {
        RedSkies x = new RedSkies();
        Due.due("dates() of none", x.dates(0, 0, 9), Due.UNKNOWN);
        Due.measure(x, "r0/g0");
        Due.due("picture 0 of none", x.dates(0, 0, 9), Due.UNKNOWN);
        Due.red(x, 0, 100, 1);
        Due.due("what -1", x.dates(0, 0, -1), Due.OUTSIDE);
        Due.due("what 3", x.dates(0, 0, 3), Due.OUTSIDE);
        Due.due("dates() without a LAW", x.dates(0, 0, 0), Due.STATE);
        Due.law(x, "5;0");
        Due.due("measure 1", x.dates(1, 0, 0), Due.UNKNOWN);
        Due.due("measure -1", x.dates(-1, 0, 0), Due.UNKNOWN);
        Due.due("picture 1", x.dates(0, 1, 0), Due.UNKNOWN);
        Due.due("picture -1", x.dates(0, -1, 0), Due.UNKNOWN);
    }

    private static void wrong() {
        RedSkies x = new RedSkies();
        Due.due("wrong() of none", x.wrong(0), Due.UNKNOWN);
        Due.measure(x, "r0/g0");
        Due.measure(x, "g0/r0");
        Due.due("wrong(-1)", x.wrong(-1), Due.UNKNOWN);
        Due.due("wrong(2)", x.wrong(2), Due.UNKNOWN);
        Due.due("wrong() without a LAW", x.wrong(0), Due.STATE);
        Due.law(x, "100,200,300,400;0");
        Due.due("wrong() without PICTURES", x.wrong(0), 0);
        x.pigment(200, 0);
        x.ice(60, 1, 2);
        x.picture(0, 0, 199, 0, -1, 0);
        x.picture(0, 0, 200, 0, -1, 0);
        x.picture(3, 0, 190, 9, -1, 0);
        x.picture(3, 0, 190, 10, -1, 0);
        Due.red(x, 1, 60, 3);
        Due.red(x, 1, 60, 2);
        Due.red(x, 1, 61, 3);
        Due.due("wrong(0)", x.wrong(0), 1 | 4 | 16);
        Due.due("wrong(1)", x.wrong(1), 1 | 4 | 16 | 32);
        for (int i = 7; i < 16; i++) {
            x.picture(3, 0, 10, 0, -1, 0);
        }
        Due.due("wrong(0) of 16", x.wrong(0), 0xFF80 | 1 | 4 | 16);
    }
}
