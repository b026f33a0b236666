/** Promises 17 to 21: STAT, ODDS, PAID, HANGS, NEXT. */
public final class NearTest {
    public static void main(String[] args) {
        stat();
        odds();
        handsApart();
        alikeAndCopies();
        sixteen();
        paid();
        paidByMeasures();
        paidByTheLeast();
        paidAgain();
        hangs();
        next();
        looksByTurns();
        looks();
        Due.finish();
    }

    /** A MOUNTAIN in 100; five PICTURES of HAND 0, NEAR by 0: the first; by 2: the second, too. */
    private static RedSkies five() {
        RedSkies x = new RedSkies();
        Due.measure(x, "r0/g0");
        x.mountain(100);
        Due.red(x, 0, 100, 9);
        Due.red(x, 0, 102, 5);
        Due.red(x, 0, 200, 1);
        Due.red(x, 0, 201, 2);
        Due.red(x, 0, 202, 5);
        return x;
    }

    private static void stat() {
        RedSkies x = new RedSkies();
        Due.due("stat(0, 99) of none", x.stat(0, 99), -1001);
        Due.measure(x, "r0/g0");
        Due.due("stat(0, 0) without PICTURES", x.stat(0, 0), 0);
        x = five();
        Due.due("stat(0, 0)", x.stat(0, 0), 4);
        Due.due("stat(0, 1)", x.stat(0, 1), 4);
        Due.due("stat(0, 2)", x.stat(0, 2), 5);
        x.colour(0, 0, 0, 0);
        Due.due("stat(0, 0) below 0", x.stat(0, 0), -4);
        Due.due("stat(0, -1)", x.stat(0, -1), -1002);
        Due.due("stat(0, 10)", x.stat(0, 10), -1002);
        Due.due("stat(1, 0)", x.stat(1, 0), -1001);
        Due.due("stat(-1, 10)", x.stat(-1, 10), -1001);
    }

    private static void dueOdds(RedSkies x, int measure, int w, long above, long below) {
        Due.due("odds(" + measure + ", " + w + ", 0)", x.odds(measure, w, 0), above);
        Due.due("odds(" + measure + ", " + w + ", 1)", x.odds(measure, w, 1), below);
    }

    private static void odds() {
        RedSkies x = new RedSkies();
        Due.due("odds(0, 99, 9) of none", x.odds(0, 99, 9), Due.UNKNOWN);
        Due.measure(x, "r0/g0");
        dueOdds(x, 0, 0, 1, 1);
        x = five();
        dueOdds(x, 0, 0, 1, 5);
        dueOdds(x, 0, 1, 1, 5);
        dueOdds(x, 0, 2, 1, 5);
        x.colour(0, 0, 0, 0);
        dueOdds(x, 0, 0, 1, 1);
        x.colour(0, 0, 0, 3);
        Due.due("stat(0, 0) between", x.stat(0, 0), 0);
        dueOdds(x, 0, 0, 3, 5);
        Due.due("odds(0, -1, 0)", x.odds(0, -1, 0), Due.OUTSIDE);
        Due.due("odds(0, 10, 0)", x.odds(0, 10, 0), Due.OUTSIDE);
        Due.due("odds(0, 0, -1)", x.odds(0, 0, -1), Due.OUTSIDE);
        Due.due("odds(0, 0, 2)", x.odds(0, 0, 2), Due.OUTSIDE);
        Due.due("odds(-1, 0, 0)", x.odds(-1, 0, 0), Due.UNKNOWN);
        Due.due("odds(1, 10, 2)", x.odds(1, 10, 2), Due.UNKNOWN);
    }

    /** HAND 1: one of three is NEAR, 1 of 3; both HANDS at their most: 1 of 5 times 1 of 3. */
    private static void handsApart() {
        RedSkies x = five();
        Due.red(x, 1, 100, 9);
        Due.red(x, 1, 200, 8);
        Due.red(x, 1, 200, 7);
        Due.due("stat(0, 0) of two HANDS", x.stat(0, 0), 6);
        dueOdds(x, 0, 0, 1, 15);
        Due.red(x, 4, 100, 1);
        Due.due("stat(0, 0) with a lone one", x.stat(0, 0), 6);
        dueOdds(x, 0, 0, 1, 15);
        // The sums are 4, 1, 1, -2, -4 and 2, 0, -2; at least 4 are 4+2, 4+0 and no more.
        x.colour(5, 0, 0, 8);
        x.colour(6, 0, 0, 9);
        Due.due("stat(0, 0) of two HANDS", x.stat(0, 0), 4);
        dueOdds(x, 0, 0, 2, 15);
        for (int hand = 0; hand <= 4; hand++) {
            x = new RedSkies();
            Due.measure(x, "r0/g0");
            x.mountain(100);
            for (int i = 0; i < 4; i++) {
                Due.red(x, hand, i == 0 ? 100 : 90, 9 - i);
            }
            Due.due("stat(0, 0) of HAND " + hand, x.stat(0, 0), 3);
            dueOdds(x, 0, 0, 1, 4);
        }
    }

    private static void alikeAndCopies() {
        RedSkies x = new RedSkies();
        Due.measure(x, "r0/g0");
        x.mountain(50);
        for (int i = 0; i < 6; i++) {
            Due.red(x, 2, i < 3 ? 50 : 90, 40);
        }
        Due.due("stat() of like ones", x.stat(0, 0), 0);
        dueOdds(x, 0, 0, 1, 1);
        x.colour(0, 0, 0, 41);
        Due.due("stat() of one greater", x.stat(0, 0), 3);
        dueOdds(x, 0, 0, 1, 2);
        int copy = x.picture(3, 2, 50, 0, -1, -1);
        x.colour(copy, 0, 0, 99);
        Due.due("stat() with a COPY", x.stat(0, 0), 3);
        dueOdds(x, 0, 0, 1, 2);
        int memory = x.picture(4, 2, 55, 0, -1, -1);
        x.colour(memory, 0, 0, 99);
        Due.due("stat() with a MEMORY", x.stat(0, 0), 6);
        dueOdds(x, 0, 0, 2, 7);
    }

    /** 8 of 16 NEAR and all greater: one choice of 12870. 10 of 16: one of 8008. */
    private static void sixteen() {
        for (int many : new int[] {8, 10, 1, 15}) {
            RedSkies x = new RedSkies();
            Due.measure(x, "r0/g0");
            x.mountain(50);
            for (int i = 0; i < 16; i++) {
                Due.red(x, 3, i < many ? 50 : 90, 99 - i);
            }
            Due.due("stat() of 16", x.stat(0, 0), many * (16 - many));
            dueOdds(x, 0, 0, 1, many == 8 ? 12870 : many == 10 ? 8008 : 16);
            for (int i = 0; i < 16; i++) {
                x.colour(i, 0, 0, i);
            }
            Due.due("stat() of 16 turned round", x.stat(0, 0), -many * (16 - many));
            dueOdds(x, 0, 0, 1, 1);
        }
    }

    private static void duePaid(RedSkies x, int w, long above, long below) {
        Due.due("paid(" + w + ", 0)", x.paid(w, 0), above);
        Due.due("paid(" + w + ", 1)", x.paid(w, 1), below);
    }

    private static void paid() {
        RedSkies x = five();
        duePaid(x, 0, 1, 5);
        duePaid(x, 1, 2, 5);
        duePaid(x, 2, 3, 5);
        duePaid(x, 3, 4, 5);
        duePaid(x, 4, 1, 1);
        duePaid(x, 9, 1, 1);
        x = new RedSkies();
        Due.due("paid(10, 0) of none", x.paid(10, 0), Due.OUTSIDE);
        Due.due("paid(-1, 0) of none", x.paid(-1, 0), Due.OUTSIDE);
        Due.due("paid(0, 2) of none", x.paid(0, 2), Due.OUTSIDE);
        Due.due("paid(0, -1) of none", x.paid(0, -1), Due.OUTSIDE);
        Due.due("paid(0, 1) of none", x.paid(0, 1), Due.STATE);
        Due.measure(x, "r0/g0");
        duePaid(x, 0, 1, 1);
    }

    private static void paidByMeasures() {
        RedSkies x = new RedSkies();
        Due.measure(x, "g0/b0");
        Due.measure(x, "r0/b0");
        x.mountain(50);
        for (int i = 0; i < 16; i++) {
            Due.red(x, 3, i < 7 ? 50 : i < 8 ? 51 : 90, 99 - i);
        }
        dueOdds(x, 1, 0, 1, 11440);
        dueOdds(x, 1, 1, 1, 12870);
        duePaid(x, 0, 1, 5720);
        duePaid(x, 1, 2, 6435);
        duePaid(x, 2, 1, 2145);
    }

    /** The least is neither the first one nor the one with the least number above or below. */
    private static void paidByTheLeast() {
        RedSkies x = new RedSkies();
        Due.measure(x, "g0/b0");
        x.mountain(100);
        int[] years = {100, 103, 104, 200, 201, 202, 203};
        for (int i = 0; i < years.length; i++) {
            Due.red(x, 0, years[i], new int[] {3, 8, 7, 9, 1, 2, 4}[i]);
        }
        dueOdds(x, 0, 0, 1, 1);
        duePaid(x, 9, 1, 1);
        Due.measure(x, "r0/b0");
        dueOdds(x, 1, 0, 5, 7);
        dueOdds(x, 1, 3, 3, 7);
        dueOdds(x, 1, 4, 11, 35);
        duePaid(x, 0, 1, 1);
        x.paint(1, 3, 0);
        Due.measure(x, "r0/b0");
        Due.measure(x, "g0/b0");
        duePaid(x, 0, 1, 1);
    }

    private static void paidAgain() {
        RedSkies x = new RedSkies();
        Due.measure(x, "r0/g0");
        x.mountain(100);
        for (int i = 0; i < 11; i++) {
            Due.red(x, 0, i == 0 ? 100 : i == 1 ? 101 : 200, i == 1 ? 0 : 20 - i);
        }
        duePaid(x, 0, 1, 11);
        duePaid(x, 1, 2, 11);
        x.colour(2, 0, 0, 99);
        x.colour(3, 0, 0, 98);
        duePaid(x, 0, 3, 11);
        duePaid(x, 2, 9, 11);
        x.colour(1, 0, 0, 97);
        // By 1: 97 and 20 of 99, 98, 97, 20 and less; 9 choices of 55 are as high.
        Due.due("stat(0, 1)", x.stat(0, 1), 10);
        duePaid(x, 1, 18, 55);
        x.colour(0, 0, 0, 0);
        x.colour(1, 0, 0, 0);
        duePaid(x, 0, 1, 1);
        for (int i = 0; i < 3; i++) {
            Due.measure(x, "g0/b0");
        }
        x.colour(0, 0, 0, 99);
        x.colour(2, 0, 0, 9);
        duePaid(x, 0, 4, 11);
    }

    private static void hangs() {
        RedSkies x = new RedSkies();
        Due.due("hangs(0, 99) of none", x.hangs(0, 99), Due.UNKNOWN);
        Due.measure(x, "r0/g0");
        Due.due("hangs(0, 0) without PICTURES", x.hangs(0, 0), Due.NONE);
        x.picture(3, 0, 0, 0, -1, -1);
        Due.due("hangs(0, 0) of a COPY", x.hangs(0, 0), Due.NONE);
        Due.red(x, 0, 1, 1);
        Due.red(x, 0, 1, 1);
        Due.due("hangs(0, 0) of like ones", x.hangs(0, 0), 1);
        x = five();
        Due.due("hangs(0, 0)", x.hangs(0, 0), 0);
        Due.due("hangs(0, 2)", x.hangs(0, 2), 0);
        x.colour(0, 0, 0, 5);
        x.colour(1, 0, 0, 9);
        Due.due("hangs(0, 2) turned round", x.hangs(0, 2), 1);
        Due.measure(x, "g0/b0");
        Due.due("hangs(1, 2) by another MEASURE", x.hangs(1, 2), 0);
        Due.due("hangs(0, 2) as before", x.hangs(0, 2), 1);
        Due.due("hangs(0, -1)", x.hangs(0, -1), Due.OUTSIDE);
        Due.due("hangs(0, 10)", x.hangs(0, 10), Due.OUTSIDE);
        Due.due("hangs(2, 10)", x.hangs(2, 10), Due.UNKNOWN);
        Due.due("count(8)", x.count(8), 5);
    }

    private static void next() {
        RedSkies x = new RedSkies();
        Due.due("next(0, 99) of none", x.next(0, 99), Due.UNKNOWN);
        Due.measure(x, "r0/g0");
        Due.due("next(0, 0) without PICTURES", x.next(0, 0), Due.NONE);
        x.picture(3, 0, 0, 0, -1, -1);
        Due.due("next(0, 0) of a COPY", x.next(0, 0), Due.NONE);
        Due.red(x, 0, 1, 1);
        Due.red(x, 0, 1, 1);
        Due.due("next(0, 0) of like ones", x.next(0, 0), 1);
        x = five();
        Due.due("next(0, 0)", x.next(0, 0), 0);
        // The first and the second one make 5 of 10 each, the others less.
        Due.due("next(0, 2) of like ones", x.next(0, 2), 0);
        Due.due("digest stays but for the looks", x.digest(), five().digest() + 2);
        Due.due("next(0, -1)", x.next(0, -1), Due.OUTSIDE);
        Due.due("next(0, 10)", x.next(0, 10), Due.OUTSIDE);
        Due.due("next(1, 10)", x.next(1, 10), Due.UNKNOWN);
        Due.due("count(8)", x.count(8), 2);
        // NEAR is the fourth one alone: it goes from the least to the greatest place.
        x = new RedSkies();
        Due.measure(x, "r0/g0");
        x.mountain(100);
        Due.red(x, 0, 1, 7);
        Due.red(x, 0, 1, 7);
        Due.red(x, 0, 1, 7);
        Due.red(x, 0, 100, 7);
        Due.due("next(0, 0) of the NEAR one", x.next(0, 0), 3);
        // Less than 0 is less than all others, too.
        x = new RedSkies();
        Due.measure(x, "r0/g0");
        x.mountain(100);
        Due.red(x, 0, 50, 0);
        Due.red(x, 0, 100, 0);
        Due.due("next(0, 0) of two with VALUE 0", x.next(0, 0), 0);
        x = new RedSkies();
        Due.measure(x, "r0/g0");
        x.mountain(100);
        Due.red(x, 0, 100, 0);
        Due.red(x, 0, 100, 0);
        Due.red(x, 0, 50, 0);
        Due.due("next(0, 0) of three with VALUE 0", x.next(0, 0), 2);
    }

    /** By red the first one, by green the second one is the greatest; looks take turns. */
    private static void looksByTurns() {
        RedSkies x = new RedSkies();
        Due.measure(x, "r0/b0");
        Due.measure(x, "g0/b0");
        x.mountain(100);
        for (int i = 0; i < 5; i++) {
            Due.red(x, 0, i < 2 ? 100 : 50, new int[] {9, 1, 2, 3, 4}[i]);
            x.colour(i, 0, 1, new int[] {1, 9, 2, 3, 4}[i]);
        }
        for (int turn = 0; turn < 2; turn++) {
            Due.due("hangs(0, 0)", x.hangs(0, 0), 0);
            Due.due("hangs(1, 0)", x.hangs(1, 0), 1);
            Due.due("next(0, 0)", x.next(0, 0), 1);
            Due.due("next(1, 0)", x.next(1, 0), 0);
        }
        Due.due("stat(0, 0)", x.stat(0, 0), 0);
        x.colour(1, 0, 1, 0);
        Due.due("next(0, 0) behind stat()", x.next(0, 0), 1);
        Due.due("stat(1, 0)", x.stat(1, 0), -6);
    }

    private static void looks() {
        RedSkies x = five();
        for (int i = 0; i < 15; i++) {
            Due.due("hangs() " + i, x.hangs(0, 0), 0);
            Due.due("refused", x.hangs(5, 0), Due.UNKNOWN);
            Due.due("next() " + i, x.next(0, 0), 0);
            Due.due("refused", x.next(0, 10), Due.OUTSIDE);
            Due.due("count(8)", x.count(8), 2 * i + 2);
        }
        long digest = x.digest();
        Due.due("hangs() behind 30", x.hangs(0, 0), Due.STATE);
        Due.due("next() behind 30", x.next(0, 0), Due.STATE);
        Due.due("UNKNOWN ahead of STATE", x.hangs(1, 0), Due.UNKNOWN);
        Due.due("OUTSIDE ahead of STATE", x.next(0, 10), Due.OUTSIDE);
        Due.unchanged("hangs(), next() behind 30", x, digest);
        Due.due("count(8)", x.count(8), 30);
        x = new RedSkies();
        Due.measure(x, "r0/g0");
        x.image();
        for (int i = 0; i < 30; i++) {
            Due.due("next() of none counts", x.next(0, 0), Due.NONE);
        }
        x.restore();
        Due.due("restore() gives none back", x.next(0, 0), Due.STATE);
    }
}
