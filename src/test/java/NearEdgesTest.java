/** Promises 17 to 21: a test for each sentence that names an edge. The MOUNTAIN is of YEAR 100, the MEASURE is "r0/g0". */
public final class NearEdgesTest {
    private static final int NONE = Due.NONE, NEAR = 100, FAR = 99;

    public static void main(String[] args) {
        statWithoutPairs();
        statOfGreaterLessAndLike();
        statOfOneHandOnly();
        statLeavesCopiesOut();
        statAtItsMostAndLeast();
        statWindows();
        oddsWithoutAChoice();
        oddsAtLeastWhatItIs();
        oddsOfEachHandApart();
        oddsOfManyChoices();
        oddsInLowestTerms();
        paidWithoutPictures();
        paidByWindowsZeroToW();
        paidByNoWindowBelowZero();
        paidByAllMeasures();
        paidOneAtMost();
        paidInLowestTerms();
        hangsOfNone();
        hangsOfLikeOnesTheLeast();
        hangsWithoutEachInTurn();
        nextOfNone();
        nextOfLikeOnesTheLeast();
        nextLessAndGreaterThanAllOthers();
        nextBySizeWhicheverIsGreater();
        thirtyLooksTogether();
        refusedLooksDoNotCount();
        looksThatAnswerNoneCount();
        looksAreNotGivenBack();
        Due.finish();
    }

    private static RedSkies withMountain() {
        RedSkies x = new RedSkies();
        Due.measure(x, "r0/g0");
        x.mountain(100);
        return x;
    }

    /** One HAND's PICTURES with these reds, so many of them NEAR from the first one on. */
    private static RedSkies ofReds(int near, int... reds) {
        RedSkies x = withMountain();
        for (int i = 0; i < reds.length; i++) {
            Due.red(x, 0, i < near ? NEAR : FAR, reds[i]);
        }
        return x;
    }

    private static void dueOdds(String what, RedSkies x, int w, long above, long below) {
        Due.due(what + ", above", x.odds(0, w, 0), above);
        Due.due(what + ", below", x.odds(0, w, 1), below);
    }

    private static void duePaid(String what, RedSkies x, int w, long above, long below) {
        Due.due(what + ", above", x.paid(w, 0), above);
        Due.due(what + ", below", x.paid(w, 1), below);
    }

    /** Promise 17: "all pairs .. of which one is NEAR, the other one not" */
    private static void statWithoutPairs() {
        Due.due("no PICTURE", withMountain().stat(0, 0), 0);
        Due.due("one PICTURE", ofReds(1, 9).stat(0, 0), 0);
        Due.due("all NEAR", ofReds(3, 9, 5, 1).stat(0, 0), 0);
        Due.due("none NEAR", ofReds(0, 9, 5, 1).stat(0, 0), 0);
    }

    /** Promise 17: "1, if the VALUE of the NEAR one is greater, -1, if it is less" */
    private static void statOfGreaterLessAndLike() {
        Due.due("greater", ofReds(1, 6, 5).stat(0, 0), 1);
        Due.due("like", ofReds(1, 5, 5).stat(0, 0), 0);
        Due.due("less", ofReds(1, 4, 5).stat(0, 0), -1);
        Due.due("together", ofReds(1, 5, 4, 3, 5, 6).stat(0, 0), 1);
        RedSkies x = ofReds(1, 66, 67);
        x.colour(0, 0, 1, 99);
        x.colour(1, 0, 1, 99);
        Due.due("66 and 67 by 99", x.stat(0, 0), -1);
        x.colour(0, 0, 1, 65);
        x.colour(1, 0, 1, 66);
        Due.due("both rounded down to 101", x.stat(0, 0), 0);
    }

    /** Promise 17: "over all HANDS and all pairs of counted PICTURES of one HAND" */
    private static void statOfOneHandOnly() {
        RedSkies x = withMountain();
        for (int hand = 0; hand <= 4; hand++) {
            Due.red(x, hand, NEAR, 9);
            Due.due("a NEAR one of HAND " + hand, x.stat(0, 0), 0);
        }
        x = withMountain();
        for (int hand = 0; hand <= 4; hand++) {
            Due.red(x, hand, NEAR, 10 * hand + 9);
            Due.red(x, hand, FAR, 10 * hand);
            Due.due("a pair of HAND " + hand, x.stat(0, 0), hand + 1);
        }
    }

    /** Promise 17: "counted PICTURES" */
    private static void statLeavesCopiesOut() {
        RedSkies x = ofReds(2, 9, 3, 5);
        long stat = x.stat(0, 0);
        for (int year : new int[] {NEAR, FAR}) {
            int copy = x.picture(3, 0, year, 0, NONE, NONE);
            x.colour(copy, 0, 0, 7);
            Due.due("with a COPY of " + year, x.stat(0, 0), stat);
            dueOdds("with a COPY of " + year, x, 0, 2, 3);
        }
    }

    /** Promise 17: "STAT (it may be below 0)" */
    private static void statAtItsMostAndLeast() {
        RedSkies x = ofReds(8, 9, 9, 9, 9, 9, 9, 9, 9, 1, 1, 1, 1, 1, 1, 1, 1);
        Due.due("the greatest STAT", x.stat(0, 0), 64);
        dueOdds("of the greatest STAT", x, 0, 1, 12870);
        x = ofReds(8, 1, 1, 1, 1, 1, 1, 1, 1, 9, 9, 9, 9, 9, 9, 9, 9);
        Due.due("the least STAT", x.stat(0, 0), -64);
        dueOdds("of the least STAT", x, 0, 1, 1);
    }

    /** Promise 17: "-1002: OUTSIDE: w": 0 to 9 are windows. */
    private static void statWindows() {
        for (int w = -1; w <= 10; w++) {
            RedSkies x = withMountain();
            Due.red(x, 0, 109, 9);
            Due.red(x, 0, FAR, 1);
            Due.due("stat(0, " + w + ")", x.stat(0, w), w < 0 || w > 9 ? -1002 : w == 9 ? 1 : 0);
            Due.due("odds(0, " + w + ", 1)", x.odds(0, w, 1), w < 0 || w > 9 ? Due.OUTSIDE : w == 9 ? 2 : 1);
        }
    }

    /** Promise 18: "if of each HAND any as many of its counted PICTURES were NEAR as are": none or all leave one choice. */
    private static void oddsWithoutAChoice() {
        dueOdds("no PICTURE", withMountain(), 0, 1, 1);
        dueOdds("one PICTURE", ofReds(1, 9), 0, 1, 1);
        dueOdds("none NEAR", ofReds(0, 9, 5, 1), 0, 1, 1);
        dueOdds("all NEAR", ofReds(3, 9, 5, 1), 0, 1, 1);
        dueOdds("no MEASURE's COLOUR told", ofReds(1, 0, 0, 0), 0, 1, 1);
    }

    /** Promise 18: "the chance that STAT is at least what it is" */
    private static void oddsAtLeastWhatItIs() {
        dueOdds("the greatest of two", ofReds(1, 9, 1), 0, 1, 2);
        dueOdds("one of two like ones", ofReds(1, 5, 5), 0, 1, 1);
        dueOdds("the least of two", ofReds(1, 1, 9), 0, 1, 1);
        dueOdds("the greatest of three", ofReds(1, 9, 5, 1), 0, 1, 3);
        dueOdds("the middle of three", ofReds(1, 5, 9, 1), 0, 2, 3);
        dueOdds("like the greatest of three", ofReds(1, 9, 9, 1), 0, 2, 3);
        dueOdds("like the least of three", ofReds(1, 1, 9, 1), 0, 1, 1);
    }

    /** Promise 18: "all choices alike, HANDS apart" */
    private static void oddsOfEachHandApart() {
        RedSkies x = withMountain();
        int below = 1;
        for (int hand = 0; hand <= 4; hand++) {
            Due.red(x, hand, NEAR, 9);
            Due.red(x, hand, FAR, 5);
            Due.red(x, hand, FAR, 1);
            below *= 3;
            dueOdds("up to HAND " + hand, x, 0, 1, below);
        }
        x = withMountain();
        Due.red(x, 0, NEAR, 9);
        Due.red(x, 0, NEAR, 8);
        Due.red(x, 1, FAR, 1);
        Due.red(x, 1, FAR, 2);
        dueOdds("NEAR are all of one HAND", x, 0, 1, 1);
    }

    /** Promise 18: Any number of 16 NEAR: one choice of all is as high. */
    private static void oddsOfManyChoices() {
        long below = 1;
        for (int near = 0; near <= 16; near++) {
            dueOdds(near + " of 16", ofReds(near, 16, 15, 14, 13, 12, 11, 10, 9, 8, 7, 6, 5, 4, 3, 2, 1), 0, 1, below);
            below = below * (16 - near) / (near + 1);
        }
    }

    /** Promise 18: "in lowest terms: part 0 above, 1 below" */
    private static void oddsInLowestTerms() {
        dueOdds("2 of 4", ofReds(1, 8, 9, 1, 2), 0, 1, 2);
        dueOdds("3 of 6", ofReds(1, 7, 9, 8, 1, 2, 3), 0, 1, 2);
        dueOdds("4 of 6", ofReds(1, 6, 9, 8, 7, 1, 2), 0, 2, 3);
        dueOdds("4 of 4", ofReds(1, 1, 9, 8, 7), 0, 1, 1);
    }

    /** Promise 19: ODDS of 1 for all: "1 at most". */
    private static void paidWithoutPictures() {
        RedSkies x = withMountain();
        for (int w = 0; w <= 9; w++) {
            duePaid("no PICTURES, w " + w, x, w, 1, 1);
        }
    }

    /** A PICTURE, the greatest of 16, that is NEAR by a WINDOW of so many YEARS and more. */
    private static RedSkies sixteen(int years) {
        RedSkies x = withMountain();
        for (int i = 0; i < 16; i++) {
            Due.red(x, 0, i == 0 ? NEAR + years : FAR, 50 - i);
        }
        return x;
    }

    /** Promise 19: "the least ODDS of .. all windows 0 to w, times how many these are" */
    private static void paidByWindowsZeroToW() {
        long[][] sixteenths = {{1, 16}, {1, 8}, {3, 16}, {1, 4}, {5, 16}, {3, 8}, {7, 16}, {1, 2}, {9, 16}, {5, 8}};
        for (int years = 0; years <= 9; years++) {
            RedSkies x = sixteen(years);
            for (int w = 0; w <= 9; w++) {
                boolean isNear = w >= years;
                duePaid(years + " YEARS, w " + w, x, w, isNear ? sixteenths[w][0] : 1, isNear ? sixteenths[w][1] : 1);
            }
        }
        RedSkies x = ofReds(1, 9, 2, 3, 4, 5);
        Due.red(x, 0, NEAR + 1, 1);
        duePaid("the least by the first WINDOW", x, 1, 1, 3);
    }

    /** Promise 19: "all windows 0 to w": a MEMORY 4 YEARS behind is NEAR by 0 already, along with one of the YEAR itself. */
    private static void paidByNoWindowBelowZero() {
        RedSkies x = withMountain();
        x.colour(x.picture(4, 0, NEAR + 4, 0, NONE, NONE), 0, 0, 99);
        Due.red(x, 0, NEAR, 1);
        for (int i = 0; i < 14; i++) {
            Due.red(x, 0, FAR, 50);
        }
        // Of 120 choices only the 14 of the least one and one of the others are below STAT, which is 0.
        dueOdds("the greatest and the least", x, 0, 53, 60);
        duePaid("the greatest and the least", x, 0, 53, 60);
    }

    /** Promise 19: "of all MEASURES" */
    private static void paidByAllMeasures() {
        for (int place = 0; place < 4; place++) {
            RedSkies x = new RedSkies();
            x.mountain(100);
            for (int i = 0; i < 16; i++) {
                Due.red(x, 0, i == 0 ? NEAR : FAR, 50 - i);
            }
            for (int measure = 0; measure < 4; measure++) {
                Due.measure(x, measure == place ? "r0/g0" : "g0/r0");
            }
            duePaid("the least by MEASURE " + place, x, 0, 1, 4);
            duePaid("the least by MEASURE " + place, x, 2, 3, 4);
            duePaid("the least by MEASURE " + place, x, 3, 1, 1);
            duePaid("the least by MEASURE " + place, x, 4, 1, 1);
        }
        RedSkies x = sixteen(0);
        for (int measures = 1; measures <= 4; measures++) {
            duePaid(measures + " MEASURES", x, 0, measures == 3 ? 3 : 1, measures == 3 ? 16 : 16 / measures);
            Due.measure(x, "r0/g0");
        }
    }

    /** Promise 19: "1 at most" */
    private static void paidOneAtMost() {
        RedSkies x = ofReds(1, 9, 4, 3, 2, 1);
        duePaid("5 times 1 of 5 less one", x, 3, 4, 5);
        duePaid("5 times 1 of 5", x, 4, 1, 1);
        duePaid("6 times 1 of 5", x, 5, 1, 1);
        duePaid("10 times 1 of 5", x, 9, 1, 1);
        duePaid("2 times 2 of 3", ofReds(1, 5, 9, 1), 1, 1, 1);
    }

    /** Promise 19: "in lowest terms" */
    private static void paidInLowestTerms() {
        RedSkies x = ofReds(1, 9, 5, 4, 3, 2, 1);
        duePaid("1 of 6", x, 0, 1, 6);
        duePaid("2 of 6", x, 1, 1, 3);
        duePaid("3 of 6", x, 2, 1, 2);
        duePaid("4 of 6", x, 3, 2, 3);
        duePaid("5 of 6", x, 4, 5, 6);
    }

    /** Promise 20: "NONE: no PICTURE is counted" */
    private static void hangsOfNone() {
        RedSkies x = withMountain();
        Due.due("hangs() of no PICTURES", x.hangs(0, 9), NONE);
        for (int i = 0; i < 16; i++) {
            x.picture(3, i % 5, NEAR, 0, NONE, NONE);
        }
        Due.due("hangs() of COPIES", x.hangs(0, 0), NONE);
        x = withMountain();
        x.picture(3, 0, NEAR, 0, NONE, NONE);
        x.picture(4, 0, NEAR, 0, NONE, NONE);
        Due.due("hangs() of a COPY and a MEMORY", x.hangs(0, 0), 1);
    }

    /** Promise 20: "of like ones the least" */
    private static void hangsOfLikeOnesTheLeast() {
        Due.due("all alike", ofReds(2, 5, 5, 5, 5).hangs(0, 0), 0);
        Due.due("two NEAR ones alike", ofReds(2, 9, 9, 5, 5, 5).hangs(0, 0), 0);
        Due.due("one PICTURE", ofReds(1, 9).hangs(0, 0), 0);
        RedSkies x = withMountain();
        x.picture(3, 0, NEAR, 0, NONE, NONE);
        for (int i = 0; i < 15; i++) {
            Due.red(x, 0, FAR, 7);
        }
        Due.due("all alike behind a COPY", x.hangs(0, 0), 1);
    }

    /** Promise 20: "the counted PICTURE without which ODDS are greatest" */
    private static void hangsWithoutEachInTurn() {
        for (int place = 0; place < 16; place++) {
            RedSkies x = withMountain();
            for (int i = 0; i < 16; i++) {
                Due.red(x, 0, i == place ? NEAR : FAR, i == place ? 9 : 5);
            }
            Due.due("the NEAR one is PICTURE " + place, x.hangs(0, 0), place);
        }
        Due.due("a far one less than two", ofReds(2, 5, 5, 1).hangs(0, 0), 2);
    }

    /** Promise 21: "NONE: no PICTURE is counted" */
    private static void nextOfNone() {
        RedSkies x = withMountain();
        Due.due("next() of no PICTURES", x.next(0, 9), NONE);
        for (int i = 0; i < 16; i++) {
            x.picture(3, i % 5, NEAR, 0, NONE, NONE);
        }
        Due.due("next() of COPIES", x.next(0, 0), NONE);
        x = withMountain();
        x.picture(3, 0, NEAR, 0, NONE, NONE);
        x.picture(4, 0, NEAR, 0, NONE, NONE);
        Due.due("next() of a COPY and a MEMORY", x.next(0, 0), 1);
    }

    /** Promise 21: "of like ones the least" */
    private static void nextOfLikeOnesTheLeast() {
        Due.due("none makes any", ofReds(0, 5, 6, 7).next(0, 0), 0);
        Due.due("one PICTURE", ofReds(1, 9).next(0, 0), 0);
        Due.due("two NEAR ones alike", ofReds(2, 9, 9, 5, 5).next(0, 0), 0);
        RedSkies x = withMountain();
        x.picture(3, 0, NEAR, 0, NONE, NONE);
        Due.red(x, 0, FAR, 7);
        Due.red(x, 0, FAR, 7);
        Due.due("none makes any behind a COPY", x.next(0, 0), 1);
    }

    /** Promise 21: "less than all others or greater than all others": others at the least and at the greatest VALUE. */
    private static void nextLessAndGreaterThanAllOthers() {
        RedSkies x = withMountain();
        Due.red(x, 0, FAR, 0);
        Due.red(x, 0, NEAR, 0);
        Due.due("VALUES of 0", x.next(0, 0), 0);
        x = new RedSkies();
        Due.measure(x, "r0123+r0123+r0123+r0123/b0");
        x.mountain(100);
        for (int i = 0; i < 2; i++) {
            Due.red(x, 0, i == 0 ? NEAR : FAR, 99);
            for (int part = 1; part < 4; part++) {
                x.colour(i, part, 0, 99);
            }
            Due.due("the greatest VALUE", x.value(0, i), 158400);
        }
        Due.due("VALUES of 158400", x.next(0, 0), 0);
    }

    /** Promise 21: "ODDS so less ODDS so (the size of it)" */
    private static void nextBySizeWhicheverIsGreater() {
        for (int place = 0; place < 16; place++) {
            RedSkies x = withMountain();
            RedSkies turned = withMountain();
            for (int i = 0; i < 16; i++) {
                Due.red(x, 0, i == place ? NEAR : FAR, 5);
                Due.red(turned, 0, i == place ? FAR : NEAR, 5);
            }
            Due.due("the only NEAR one is " + place, x.next(0, 0), place);
            Due.due("the only far one is " + place, turned.next(0, 0), place);
        }
    }

    /** Promises 20, 21: "STATE: hangs(), next() were done 30 times ever together" */
    private static void thirtyLooksTogether() {
        for (int hangs = 0; hangs <= 30; hangs += 6) {
            RedSkies x = ofReds(1, 9, 5);
            for (int i = 0; i < 30; i++) {
                Due.due("look " + i, i < hangs ? x.hangs(0, 0) : x.next(0, 0), 0);
                Due.due("count(8)", x.count(8), i + 1);
            }
            Due.due("hangs() behind " + hangs + " and the rest", x.hangs(0, 0), Due.STATE);
            Due.due("next() behind " + hangs + " and the rest", x.next(0, 0), Due.STATE);
            Due.due("count(8)", x.count(8), 30);
        }
    }

    /** Promises 20, 21: "(refusals do not count" */
    private static void refusedLooksDoNotCount() {
        RedSkies x = ofReds(1, 9, 5);
        for (int i = 0; i < 31; i++) {
            Due.due("no such MEASURE", x.hangs(1, 0), Due.UNKNOWN);
            Due.due("no such MEASURE", x.next(-1, 0), Due.UNKNOWN);
            Due.due("no such WINDOW", x.hangs(0, 10), Due.OUTSIDE);
            Due.due("no such WINDOW", x.next(0, -1), Due.OUTSIDE);
        }
        Due.due("count(8)", x.count(8), 0);
        for (int i = 0; i < 30; i++) {
            Due.due("look " + i, x.hangs(0, 0), 0);
        }
        Due.due("one more", x.hangs(0, 0), Due.STATE);
        Due.due("and one more", x.hangs(0, 0), Due.STATE);
        Due.due("count(8)", x.count(8), 30);
    }

    /** Promises 20, 21: ", all else does)" */
    private static void looksThatAnswerNoneCount() {
        RedSkies x = withMountain();
        for (int i = 0; i < 15; i++) {
            Due.due("hangs() of none", x.hangs(0, 0), NONE);
            Due.due("next() of none", x.next(0, 9), NONE);
        }
        Due.due("count(8)", x.count(8), 30);
        Due.due("hangs() of none behind 30", x.hangs(0, 0), Due.STATE);
        Due.due("next() of none behind 30", x.next(0, 0), Due.STATE);
    }

    /** Promises 20, 21: "30 times ever": neither an IMAGE nor an empty PAGE gives any back. */
    private static void looksAreNotGivenBack() {
        RedSkies x = ofReds(1, 9, 5);
        x.image();
        for (int i = 0; i < 30; i++) {
            x.next(0, i % 10);
        }
        Due.due("restore()", x.restore(), 2);
        Due.due("count(8) behind restore()", x.count(8), 30);
        Due.due("hangs() behind restore()", x.hangs(0, 0), Due.STATE);
        Due.due("stat() goes on", x.stat(0, 0), 1);
        dueOdds("odds() goes on", x, 0, 1, 2);
    }
}
