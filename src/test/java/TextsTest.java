/** Promises 1 to 7: a new object, THE PAGE, and the texts that are read from it. */
public final class TextsTest {
    public static void main(String[] args) {
        newObject();
        constants();
        letters();
        blank();
        faultOfLamps();
        faultOfMeasures();
        faultOfLaws();
        lamp();
        measure();
        law();
        Due.finish();
    }

    private static void newObject() {
        RedSkies x = new RedSkies();
        for (int what = 0; what <= 8; what++) {
            Due.due("count(" + what + ") of a new object", x.count(what), 0);
        }
        Due.due("restore() of a new object", x.restore(), Due.STATE);
        Due.due("paid(0, 0) of a new object", x.paid(0, 0), Due.STATE);
        Due.due("about(0, 0) of a new object", x.about(0, 0), Due.UNKNOWN);
        long h = 421;
        for (int what = 0; what <= 8; what++) {
            h = 31 * h;
        }
        Due.due("digest() of a new object", x.digest(), h);
    }

    private static void constants() {
        Due.due("NONE", RedSkies.NONE, -1);
        Due.due("UNKNOWN", RedSkies.UNKNOWN, -101);
        Due.due("OUTSIDE", RedSkies.OUTSIDE, -102);
        Due.due("STATE", RedSkies.STATE, -103);
        Due.due("FULL", RedSkies.FULL, -104);
    }

    private static void letters() {
        RedSkies x = new RedSkies();
        Due.due("letters(none)", x.letters(0), 0);
        Due.due("letters(a)", x.letters('a'), 1);
        Due.due("letters(1, 126)", x.letters(1 | 126 << 8), 3);
        Due.due("letters(eight)", x.letters(Due.packed("abcdefgh")), 11);
        long digest = x.digest();
        Due.due("letters(127)", x.letters(127), Due.OUTSIDE);
        Due.due("letters(255)", x.letters(255), Due.OUTSIDE);
        Due.due("letters(-1)", x.letters(-1), Due.OUTSIDE);
        Due.due("letters(least)", x.letters(Long.MIN_VALUE), Due.OUTSIDE);
        Due.due("letters(127 last)", x.letters(Due.packed("abcdefg" + (char) 127)), Due.OUTSIDE);
        Due.due("letters(b behind 0)", x.letters('b' << 8), Due.OUTSIDE);
        Due.due("letters(a, 0, b)", x.letters('a' | 'b' << 16), Due.OUTSIDE);
        Due.due("letters(a, 0s, b)", x.letters('a' | (long) 'b' << 56), Due.OUTSIDE);
        Due.unchanged("letters() refused", x, digest);
        for (int i = 0; i < 3; i++) {
            x.letters(Due.packed("abcdefgh"));
        }
        Due.due("letters(six more than 35)", x.letters(Due.packed("abcdef")), Due.FULL);
        Due.due("letters(five more than 35)", x.letters(Due.packed("abcde")), 40);
        digest = x.digest();
        Due.due("letters(one more than 40)", x.letters('a'), Due.FULL);
        Due.due("letters(127) above 40", x.letters(127), Due.OUTSIDE);
        Due.unchanged("letters() refused", x, digest);
        Due.due("letters(none) at 40", x.letters(0), 40);
    }

    private static void blank() {
        RedSkies x = new RedSkies();
        Due.due("blank() of nothing", x.blank(), 0);
        Due.put(x, "r+7g-2zz");
        Due.due("blank()", x.blank(), 8);
        Due.due("count(7) behind blank()", x.count(7), 0);
        Due.due("blank() again", x.blank(), 0);
        Due.due("lamp() behind blank()", Due.lamp(x, "r+7"), 0);
    }

    private static void fault(int sort, String text, int want) {
        RedSkies x = new RedSkies();
        Due.put(x, text);
        long digest = x.digest();
        Due.due("fault(" + sort + ") of " + text, x.fault(sort), want);
        Due.unchanged("fault()", x, digest);
    }

    private static void faultOfLamps() {
        fault(0, "", 0);
        fault(0, "r", 1);
        fault(0, "r+", 2);
        fault(0, "r+20g-0b+19", 11);
        fault(0, "x", 0);
        fault(0, "R+1", 0);
        fault(0, "+1", 0);
        fault(0, "r1", 1);
        fault(0, "r+x", 2);
        fault(0, "r+-1", 2);
        fault(0, "r+21", 3);
        fault(0, "r+3", 3);
        fault(0, "r+30", 3);
        fault(0, "r+00", 3);
        fault(0, "r+05", 3);
        fault(0, "r+200", 4);
        fault(0, "r+100", 4);
        fault(0, "r+1r", 3);
        fault(0, "r+1g-2r+1", 6);
        fault(0, "r+1g-2b+3r", 9);
        fault(0, "r+1 ", 3);
        fault(0, "r+1,g+1", 3);
        RedSkies x = new RedSkies();
        Due.due("fault(-1)", x.fault(-1), Due.OUTSIDE);
        Due.due("fault(3)", x.fault(3), Due.OUTSIDE);
        Due.due("fault(least)", x.fault(Integer.MIN_VALUE), Due.OUTSIDE);
    }

    private static void faultOfMeasures() {
        fault(1, "", 0);
        fault(1, "r0/g0", 5);
        fault(1, "r0123+g013+b2+r0/b3", 19);
        fault(1, "r0/r0123+g013+b2+r0", 19);
        fault(1, "0", 0);
        fault(1, "/", 0);
        fault(1, "r/", 1);
        fault(1, "r+", 1);
        fault(1, "rg", 1);
        fault(1, "r4", 1);
        fault(1, "r00", 2);
        fault(1, "r10", 2);
        fault(1, "r0g", 2);
        fault(1, "r0123+r0123+r0123+r0123+", 23);
        fault(1, "r0/g1+g1+g1+g1+", 14);
        fault(1, "r0/g1/", 5);
        fault(1, "r0/g1;", 5);
        fault(1, "r0+/", 3);
        fault(1, "r0//", 3);
        fault(1, "r0123+r0123+r0123+r0123/r0123+r0123+r012", 40);
        fault(1, "r0123+r0123+r0123+r0123/r0123+r012+r012+", 40);
    }

    private static void faultOfLaws() {
        fault(2, "", 0);
        fault(2, "1;0", 3);
        fault(2, "1,2,3,4,999;99", 14);
        fault(2, "0", 0);
        fault(2, ";", 0);
        fault(2, ",", 0);
        fault(2, "a", 0);
        fault(2, "1000", 3);
        fault(2, "1,0", 2);
        fault(2, "1,1", 3);
        fault(2, "1,1;", 3);
        fault(2, "1,1,", 3);
        fault(2, "1,,", 2);
        fault(2, "1,;", 2);
        fault(2, "50,6", 4);
        fault(2, "50,6;", 4);
        fault(2, "50,6,", 4);
        fault(2, "50,60;", 6);
        fault(2, "500,4", 4);
        fault(2, "500,5", 5);
        fault(2, "500,50", 6);
        fault(2, "500,500", 6);
        fault(2, "500,501", 7);
        fault(2, "150,12", 5);
        fault(2, "599,5", 4);
        fault(2, "598,59", 6);
        fault(2, "599,59", 4);
        fault(2, "999", 3);
        fault(2, "999;", 4);
        fault(2, "999,", 3);
        fault(2, "998,9", 5);
        fault(2, "1,2,3,4,5,", 9);
        fault(2, "1,2,3,4,5;", 10);
        fault(2, "1;00", 3);
        fault(2, "1;05", 3);
        fault(2, "1;100", 4);
        fault(2, "1;5,", 3);
        fault(2, "1;5;", 3);
        fault(2, "1;,", 2);
        fault(2, "1;;", 2);
    }

    private static void readsNone(int sort, String text) {
        RedSkies x = new RedSkies();
        Due.put(x, text);
        long digest = x.digest();
        int answer = sort == 0 ? x.lamp() : sort == 1 ? x.measure() : x.law();
        String call = "reading sort " + sort + " of " + text;
        Due.due(call, answer, Due.STATE);
        Due.unchanged(call, x, digest);
    }

    private static void lamp() {
        for (String text : new String[] {"", "r", "r+", "r+1g", "r+1g-", "r+21", "r+1r+1", "r+01", "r0/g0"}) {
            readsNone(0, text);
        }
        RedSkies x = new RedSkies();
        Due.due("lamp() first", Due.lamp(x, "b-20"), 0);
        Due.due("count(7) behind lamp()", x.count(7), 0);
        Due.due("lamp() of three", Due.lamp(x, "b-20r+10g+0"), 1);
        Due.due("lamp() third", Due.lamp(x, "g-7r+3"), 2);
        x.picture(0, 0, 100, 0, 1, Due.NONE);
        x.picture(0, 0, 100, 0, 2, Due.NONE);
        for (int colour = 0; colour < 3; colour++) {
            x.colour(0, 0, colour, 50);
            x.colour(1, 0, colour, 50);
        }
        Due.due("red under r+10", x.about(0, 10), 40);
        Due.due("green under g+0", x.about(0, 11), 50);
        Due.due("blue under b-20", x.about(0, 12), 70);
        Due.due("red under r+3", x.about(1, 10), 47);
        Due.due("green under g-7", x.about(1, 11), 57);
        Due.due("blue of which the LAMP tells nothing", x.about(1, 12), 50);
        Due.due("lamp() fourth", Due.lamp(x, "r+1"), 3);
        Due.due("lamp() of none beyond four", x.lamp(), Due.STATE);
        Due.put(x, "r+1");
        long digest = x.digest();
        Due.due("lamp() fifth", x.lamp(), Due.FULL);
        Due.unchanged("lamp() fifth", x, digest);
    }

    private static void measure() {
        for (String text : new String[] {"", "r0", "r0/", "r0/g", "r0/g1+", "r10/g1", "r0/g1/b1", "r0+g1", "r+1"}) {
            readsNone(1, text);
        }
        RedSkies x = new RedSkies();
        Due.due("measure() first", Due.measure(x, "r0123+r0123+r0123+r0123/r0123+r0123+r012"), 0);
        Due.due("count(7) behind measure()", x.count(7), 0);
        Due.due("measure() second", Due.measure(x, "b3/g2"), 1);
        Due.due("measure() third", Due.measure(x, "r0/g0"), 2);
        Due.due("measure() fourth", Due.measure(x, "r0/g0"), 3);
        Due.due("measure() of none beyond four", x.measure(), Due.STATE);
        Due.put(x, "r0/g0");
        long digest = x.digest();
        Due.due("measure() fifth", x.measure(), Due.FULL);
        Due.unchanged("measure() fifth", x, digest);
    }

    private static void law() {
        for (String text : new String[] {"", "1", "1;", "1,", "2,1;0", "1,1;0", "1000;0", "1;100", "0;1", "1,2,3,4,5,6;0"}) {
            readsNone(2, text);
        }
        RedSkies x = new RedSkies();
        x.picture(0, 0, 100, 0, Due.NONE, Due.NONE);
        x.colour(0, 0, 0, 3);
        Due.measure(x, "r0/g0");
        Due.due("law()", Due.law(x, "100,200,300,400,999;0"), 5);
        Due.due("count(7) behind law()", x.count(7), 0);
        Due.due("classes of 300", x.classes(0, 0, 0), 3);
        Due.due("another law()", Due.law(x, "302;7"), 1);
        Due.due("and another", Due.law(x, "301;1"), 1);
        Due.due("count(5)", x.count(5), 1);
        Due.due("classes of 300 less 1", x.classes(0, 0, 0), 0);
        Due.due("classes of 300 and 1", x.classes(0, 0, 1), 1);
        Due.put(x, "1,2,3");
        Due.due("law() of none", x.law(), Due.STATE);
        Due.due("the LAW stays", x.classes(0, 0, 1), 1);
        Due.due("count(5) stays", x.count(5), 1);
    }
}
