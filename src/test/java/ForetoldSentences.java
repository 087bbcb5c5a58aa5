/** Promises 18 to 27: what is foretold from the SITE as it is, and what block 3 of the Terms says of it. */
final class ForetoldSentences extends Probe {

    /** RAIN 9; SIDE sinks by 1 at each, up to EGG 6 it is LEVEL. */
    private static final String SLOW = "n6,9,9;w60,1;w60,0;w60,0;d0,1;";

    /** All FEET at 99, on ground that holds. */
    private static NightLevel atTheTop(String deeds) {
        NightLevel x = at("n0,0,1;w60,0;w60,0;w60,0;" + deeds);
        for (int i = 0; i < 9; i++) x.jack(i % 3, 13);
        return x;
    }

    // ---- 18

    @Says(promise = 18, sentence = "AHEAD: HEIGHT.")
    static void heightAhead() {
        NightLevel x = at("n0,0,3;w20,1;w30,2;w40,0;d0,1;");
        int[] rains = {0, 1, 1, 1, 2, 2, 2, 3};
        for (int n = 0; n < rains.length; n++) {
            due("FOOT 0 behind " + n, x.ahead(0, n), 20 - rains[n]);
            due("FOOT 1 behind " + n, x.ahead(1, n), 30 - 2 * rains[n]);
            due("FOOT 2 behind " + n, x.ahead(2, n), 40);
        }
        x.hours(2);
        due("from HOUR 2, behind 1", x.ahead(0, 1), 19);
        due("from HOUR 2, behind 2", x.ahead(0, 2), 18);
    }

    @Says(promise = 18, sentence = "AHEAD by n HOURS (0 to 60): HEIGHT of a FOOT;")
    static void zeroToSixtyHoursAhead() {
        NightLevel x = at("n0,0,1;w60,1;w60,0;w60,0;d0,1;");
        x.jack(0, 20);
        due("0: now", x.ahead(0, 0), 80);
        due("59", x.ahead(0, 59), 21);
        due("60", x.ahead(0, 60), 20);
        due("61", x.ahead(0, 61), BAD);
        due("-1", x.ahead(0, -1), BAD);
        NightLevel late = at("n0,0,1;w60,1;w60,0;w60,0;d0,1;");
        for (int i = 0; i < 41; i++) late.hours(24);
        late.hours(15);
        late.jack(0, 20);
        due("beyond HOUR 999", late.ahead(0, 7), 13);
    }

    @Says(promise = 18, sentence = "HEIGHT is 0 to 99 always (cut at once)")
    static void noHeightAheadBelowZero() {
        NightLevel x = at("n0,0,1;w10,9;w18,9;w60,1;d0,1;");
        due("FOOT 0 behind 1", x.ahead(0, 1), 1);
        due("FOOT 0 behind 2", x.ahead(0, 2), 0);
        due("FOOT 1 behind 2", x.ahead(1, 2), 0);
        due("FOOT 1 behind 60", x.ahead(1, 60), 0);
        due("FOOT 2 behind 60", x.ahead(2, 60), 0);
    }

    @Says(promise = 18, sentence = "BAD; STATE: no SITE (ahead of BAD).")
    static void noSuchFootOrHourAhead() {
        refused(Probe::busy, BAD, x -> x.ahead(-1, 0), x -> x.ahead(3, 0), x -> x.ahead(LEAST, 0), x -> x.ahead(MOST, 0),
            x -> x.ahead(0, -1), x -> x.ahead(0, 61), x -> x.ahead(0, LEAST), x -> x.ahead(0, MOST));
    }

    @Says(promise = 18, sentence = "STATE: no SITE (ahead of BAD).")
    static void aheadWithoutASite() {
        refused(Probe::nowhere, STATE, x -> x.ahead(0, 0), x -> x.ahead(3, 0), x -> x.ahead(0, 61));
    }

    @Says(promise = 18, sentence = "FORETOLD (nothing changes).")
    static void aheadChangesNothing() {
        quiet(Probe::busy, x -> x.ahead(0, 0), x -> x.ahead(1, 60), x -> x.ahead(2, 7));
    }

    // ---- 19

    @Says(promise = 19, sentence = "AHEAD: SIDE (what = 0), ALONG (1), 1000 more.")
    static void sideAndAlongAhead() {
        NightLevel x = at("n0,0,2;w20,1;w20,3;w20,0;d0,1;");
        int[][] both = {{0, 0}, {2, 2}, {2, 2}, {4, 4}};
        for (int n = 0; n < both.length; n++) {
            due("SIDE behind " + n, x.leanAhead(n, 0), 1000 + both[n][0]);
            due("ALONG behind " + n, x.leanAhead(n, 1), 1000 + both[n][1]);
        }
        NightLevel y = at("n0,0,1;w20,3;w20,0;w20,9;d0,1;");
        due("SIDE below 0", y.leanAhead(1, 0), 997);
        // 17, 20, 11: MIDDLE 18.
        due("ALONG below 0", y.leanAhead(1, 1), 993);
    }

    @Says(promise = 19, sentence = "SIDE, ALONG (1000 more).")
    static void leanZeroToSixtyHoursAhead() {
        NightLevel x = at("n0,0,1;w60,1;w60,0;w60,0;d0,1;");
        due("now", x.leanAhead(0, 0), 1000);
        due("59", x.leanAhead(59, 0), 941);
        due("60", x.leanAhead(60, 0), 940);
        due("60", x.leanAhead(60, 1), 1030);
        due("61", x.leanAhead(61, 0), BAD);
    }

    @Says(promise = 19, sentence = "HEIGHT is 0 to 99 always (cut at once)")
    static void leanAheadOfFeetAtTheBottom() {
        NightLevel x = at("n0,0,1;w10,9;w20,9;w5,0;d0,1;");
        // 1, 11; 0, 2; 0, 0.
        int[][] both = {{-10, -10}, {-10, -1}, {-2, 4}, {0, 5}, {0, 5}};
        for (int n = 0; n < both.length; n++) {
            due("SIDE behind " + n, x.leanAhead(n, 0), 1000 + both[n][0]);
            due("ALONG behind " + n, x.leanAhead(n, 1), 1000 + both[n][1]);
        }
    }

    @Says(promise = 19, sentence = "BAD; STATE: no SITE (ahead of BAD).")
    static void noSuchLeanAhead() {
        refused(Probe::busy, BAD, x -> x.leanAhead(-1, 0), x -> x.leanAhead(61, 0), x -> x.leanAhead(LEAST, 0),
            x -> x.leanAhead(MOST, 1), x -> x.leanAhead(0, -1), x -> x.leanAhead(0, 2), x -> x.leanAhead(0, LEAST),
            x -> x.leanAhead(0, MOST));
    }

    @Says(promise = 19, sentence = "STATE: no SITE (ahead of BAD).")
    static void leanAheadWithoutASite() {
        refused(Probe::nowhere, STATE, x -> x.leanAhead(0, 0), x -> x.leanAhead(61, 0), x -> x.leanAhead(0, 2));
    }

    @Says(promise = 19, sentence = "FORETOLD (nothing changes).")
    static void leanAheadChangesNothing() {
        quiet(Probe::busy, x -> x.leanAhead(0, 0), x -> x.leanAhead(60, 1), x -> x.leanAhead(9, 0));
    }

    // ---- 20

    @Says(promise = 20, sentence = "LASTS. STATE: no SITE.")
    static void lastsWithoutASite() {
        refused(Probe::nowhere, STATE, x -> x.lasts());
    }

    @Says(promise = 20, sentence = "LASTS: behind how many HOURS (0: now; 60 at most) it is not LEVEL first;")
    static void untilItIsNotLevelFirst() {
        due("not now", at("n0,0,1;w6,0;w5,0;w5,0;d0,1;").lasts(), 0);
        due("behind 1", at("n0,0,1;w5,1;w5,0;w5,0;d0,1;").lasts(), 1);
        due("EGG 1, RAIN 3", at("n1,9,3;w20,1;w20,0;w20,0;d0,1;").lasts(), 4);
        due("by ALONG", at("n9,2,1;w20,0;w20,0;w20,1;d0,1;").lasts(), 3);
        due("not now, though later", at("n0,0,1;w6,1;w5,0;w5,0;d0,1;").lasts(), 0);
        due("first, though LEVEL again later", at("n0,0,1;w5,2;w5,1;w0,0;d0,1;").lasts(), 0);
        due("LEVEL again later", at("n1,9,1;w5,3;w5,1;w4,0;d0,1;").lasts(), 1);
        NightLevel x = at(SLOW);
        due("seven rains", x.lasts(), 55);
        x.hours(4);
        x.jack(0, 1);
        // SIDE is 0 again, seven rains are at HOURS 9 to 63.
        due("60 at most", x.lasts(), 60);
    }

    @Says(promise = 20, sentence = "61: it is so far.")
    static void itIsSoFar() {
        due("on ground that holds", at(FIRM).lasts(), 61);
        NightLevel x = at(SLOW);
        x.hours(3);
        x.jack(0, 1);
        due("behind 61 it would not be", x.lasts(), 61);
        due("sunk to the bottom", at("n0,0,1;w0,9;w0,9;w0,9;d0,1;").lasts(), 61);
    }

    @Says(promise = 20, sentence = "HEIGHT is 0 to 99 always (cut at once)")
    static void atTheBottomItStaysLevel() {
        due("all at 0 behind 1", at("n0,0,1;w5,9;w5,8;w5,5;d0,1;").lasts(), 61);
    }

    @Says(promise = 20, sentence = "FORETOLD (nothing changes).")
    static void lastsChangesNothing() {
        quiet(Probe::busy, x -> x.lasts(), x -> x.lasts());
    }

    // ---- 21

    @Says(promise = 21, sentence = "FIRST; NONE. STATE: no SITE.")
    static void firstWithoutASite() {
        refused(Probe::nowhere, STATE, x -> x.first());
    }

    @Says(promise = 21, sentence = "FIRST: behind how many HOURS (0: now; 60 at most) it is LEVEL first;")
    static void untilItIsLevelFirst() {
        due("now", at(FIRM).first(), 0);
        due("behind 1", at("n0,9,1;w6,1;w5,0;w5,0;d0,1;").first(), 1);
        due("behind 9", at("n0,0,2;w15,1;w10,0;w10,0;d0,1;").first(), 9);
        due("by ALONG", at("n9,0,1;w20,0;w20,0;w23,1;d0,1;").first(), 3);
        due("now, though not later", at("n0,0,1;w5,1;w5,0;w5,0;d0,1;").first(), 0);
        NightLevel x = at("n0,9,9;w7,1;w0,0;w5,0;d0,1;");
        due("seven rains", x.first(), 55);
        x.hours(4);
        x.jack(0, 1);
        due("60 at most", x.first(), 60);
    }

    @Says(promise = 21, sentence = "it is LEVEL first; NONE.")
    static void neverLevelSoFar() {
        due("on ground that holds", at("n0,0,1;w6,0;w5,0;w5,0;d0,1;").first(), NONE);
        NightLevel x = at("n0,9,9;w7,1;w0,0;w5,0;d0,1;");
        x.hours(3);
        x.jack(0, 1);
        due("behind 61 it would be", x.first(), NONE);
        due("it leaps over", at("n0,9,1;w6,2;w5,0;w5,0;d0,1;").first(), NONE);
    }

    @Says(promise = 21, sentence = "HEIGHT is 0 to 99 always (cut at once)")
    static void atTheBottomItIsLevel() {
        due("all at 0 behind 1", at("n0,0,1;w5,9;w4,8;w3,5;d0,1;").first(), 1);
    }

    @Says(promise = 21, sentence = "FORETOLD (nothing changes).")
    static void firstChangesNothing() {
        quiet(Probe::busy, x -> x.first(), x -> x.first());
    }

    // ---- 22

    @Says(promise = 22, sentence = "TRY. BAD; STATE: it is DONE.")
    static void noSuchDeedToTry() {
        refused(Probe::busy, BAD, x -> x.attempt(-1), x -> x.attempt(7), x -> x.attempt(LEAST), x -> x.attempt(MOST));
        refused(Probe::nowhere, BAD, x -> x.attempt(0));
    }

    @Says(promise = 22, sentence = "STATE: it is DONE.")
    static void tryOfADeedThatIsDone() {
        refused(Probe::busy, STATE, x -> x.attempt(1), x -> x.attempt(3));
    }

    @Says(promise = 22, sentence = "TRY of a DEED that is not DONE: AWRY, were it DONE now.")
    static void awryWereItDone() {
        int[] awry = {0 + 7, 1 + 6, 10 + 6, 6 + 1, 6 + 1};
        NightLevel x = at(FIVE);
        for (int deed = 0; deed < 5; deed++) {
            due("TRY of " + deed, x.attempt(deed), awry[deed]);
            due("and DONE", at(FIVE).perform(deed), awry[deed]);
        }
    }

    @Says(promise = 22, sentence = "HEIGHT is 0 to 99 always (cut at once)")
    static void tryIsCut() {
        due("at 99", atTheTop("d0,20;").attempt(0), 0);
        due("at 99", atTheTop("o2,20;").attempt(0), 0);
        due("at 0", at("n0,0,1;w0,0;w0,0;w0,0;u0,20;").attempt(0), 0);
        due("at 0", at("n0,0,1;w5,0;w5,0;w9,0;t0,20;").attempt(0), 5);
    }

    @Says(promise = 22, sentence = "FORETOLD (nothing changes).")
    static void tryChangesNothing() {
        quiet(Probe::busy, x -> x.attempt(0), x -> x.attempt(2), x -> x.attempt(4), x -> x.attempt(6));
    }

    // ---- 23

    @Says(promise = 23, sentence = "BEST: which (what = 0), AWRY (1);")
    static void whichIsBest() {
        NightLevel x = at("n0,0,1;w10,0;w16,0;w13,0;d1,1;d0,5;d0,6;o0,9;");
        int[] tries = {7 + 0, 1 + 2, 0 + 3, 1 + 2};
        for (int deed = 0; deed < 4; deed++) due("TRY of " + deed, x.attempt(deed), tries[deed]);
        due("which", x.best(0), 1);
        due("AWRY", x.best(1), 1 + 2);
    }

    @Says(promise = 23, sentence = "BEST: the one with the least such AWRY, of several the first; that AWRY;")
    static void ofSeveralTheFirst() {
        NightLevel x = at("n0,0,1;w10,0;w16,0;w13,0;d2,9;d0,2;d0,2;d0,2;d0,1;");
        due("the first of three", x.best(0), 1);
        x.perform(1);
        due("the first of two", x.best(0), 2);
        due("of all, the last", at("n0,0,1;w10,0;w16,0;w13,0;d2,9;d1,2;d0,6;").best(0), 2);
        due("even if it gets worse", at(FIRM).best(1), 1);
        due("the least may be 0", at("n0,0,1;w10,0;w16,0;w16,0;d0,6;").best(1), 0);
        due("then", at("n0,0,1;w10,0;w16,0;w16,0;d0,6;").best(0), 0);
    }

    @Says(promise = 23, sentence = "NONE: all are DONE.")
    static void noneIsBest() {
        NightLevel x = at(FIVE);
        for (int deed = 0; deed < 5; deed++) {
            due("one is left", x.best(0) == NONE ? 1 : 0, 0);
            x.perform(deed);
        }
        due("which", x.best(0), NONE);
        due("AWRY", x.best(1), NONE);
        x.undo();
        due("undone", x.best(0), 4);
    }

    @Says(promise = 23, sentence = "NONE. BAD; STATE: no SITE (ahead of BAD).")
    static void noSuchBest() {
        refused(Probe::busy, BAD, x -> x.best(-1), x -> x.best(2), x -> x.best(LEAST), x -> x.best(MOST));
        NightLevel x = at(FIRM);
        x.perform(0);
        due("ahead of NONE", x.best(2), BAD);
    }

    @Says(promise = 23, sentence = "STATE: no SITE (ahead of BAD).")
    static void bestWithoutASite() {
        refused(Probe::nowhere, STATE, x -> x.best(0), x -> x.best(1), x -> x.best(-1), x -> x.best(2));
    }

    @Says(promise = 23, sentence = "HEIGHT is 0 to 99 always (cut at once)")
    static void bestIsCut() {
        NightLevel x = atTheTop("u0,1;d0,20;");
        due("which", x.best(0), 1);
        due("AWRY", x.best(1), 0);
    }

    @Says(promise = 23, sentence = "FORETOLD (nothing changes).")
    static void bestChangesNothing() {
        quiet(Probe::busy, x -> x.best(0), x -> x.best(1));
    }

    // ---- 24

    private static void row(NightLevel x, int n, int... deeds) {
        due("how many for " + n, x.plan(n, -1), deeds.length);
        for (int k = 0; k < deeds.length; k++) due("the " + k + "-th for " + n, x.plan(n, k), deeds[k]);
        due("no more for " + n, x.plan(n, deeds.length), NONE);
    }

    @Says(promise = 24, sentence = "PLAN: how many (k = -1), the k-th (0 on;")
    static void howManyAndEachOfTheRow() {
        NightLevel x = at("n0,0,1;w10,0;w16,0;w13,0;d0,4;d0,2;d2,3;d0,6;");
        row(x, 0, 2, 3);
        NightLevel all = at("n0,9,9;w0,0;w60,0;w60,0;d0,20;d0,20;d0,14;d0,3;d0,1;d0,1;d0,1;");
        row(all, 0, 0, 1, 2, 3, 4, 5, 6);
    }

    @Says(promise = 24, sentence = "NONE: the row is not so long); NONE.")
    static void theRowIsNotSoLong() {
        NightLevel x = at("n0,0,1;w10,0;w16,0;w13,0;d0,4;d0,2;d2,3;d0,6;");
        due("2", x.plan(0, 2), NONE);
        due("7", x.plan(0, 7), NONE);
        due("8", x.plan(0, 8), NONE);
        due("by far", x.plan(0, MOST), NONE);
        due("of an empty row", at(FIRM).plan(0, 0), NONE);
    }

    @Says(promise = 24, sentence = "the fewest DEEDS, one behind another, that are not DONE, to be DONE now so that it is LEVEL behind n HOURS;")
    static void theFewestDeeds() {
        row(at(FIRM), 0);
        row(at(FIRM), 24);
        NightLevel rain = at("n0,9,2;w10,1;w10,0;w10,0;d0,2;d0,3;d0,1;");
        row(rain, 0);
        row(rain, 1, 2);
        row(rain, 3, 0);
        row(rain, 5, 1);
        row(rain, 7, 1, 2);
        row(rain, 11, 0, 1, 2);
        rain.perform(2);
        row(rain, 7, 1);
        row(rain, 1);
        NightLevel done = at("n0,9,1;w4,0;w6,0;w5,0;d0,1;d0,2;");
        done.perform(0);
        due("what is DONE is none of them", done.plan(0, -1), NONE);
        row(at("n0,0,1;w10,0;w10,0;w12,0;u0,1;u0,3;"), 0, 1, 0);
        // In an order that is not by numbers: the wheels must be changed first.
        row(at("n0,1,2;w8,2;w12,1;w9,0;t0,4;s0,4;o1,3;"), 0, 1, 0);
        row(at("n0,9,1;w10,0;w14,0;w14,0;d2,20;d1,4;t0,1;"), 0, 2, 1);
        row(at("n0,9,1;w10,0;w14,0;w14,0;d2,20;s1,4;o2,20;d2,20;t0,1;"), 0, 4, 1);
        row(at("n0,9,1;w10,0;w14,0;w14,0;d2,20;d1,2;o1,2;t0,1;"), 0, 3, 1, 2);
    }

    @Says(promise = 24, sentence = "of several rows the first (DEED by DEED)")
    static void ofSeveralRowsTheFirst() {
        row(at("n0,9,1;w10,0;w16,0;w13,0;d0,9;d0,6;d0,6;"), 0, 1);
        row(at("n0,9,1;w10,0;w16,0;w13,0;d0,5;d0,2;d0,4;d0,3;d0,3;d0,1;"), 0, 0, 5);
        row(at("n0,9,1;w10,0;w16,0;w13,0;d0,4;d0,3;d0,3;d0,2;"), 0, 0, 3);
        row(at("n0,9,1;w10,0;w16,0;w10,0;u0,1;d0,3;u0,2;d0,3;"), 0, 1, 3);
    }

    @Says(promise = 24, sentence = "HEIGHT is 0 to 99 always (cut at once)")
    static void planCutsAtOnce() {
        // The nose, at 3, is lowered to 0, not to -17: lifted by 2 then it stands at 2.
        row(at("n0,0,1;w2,0;w2,0;w3,0;u0,20;d2,2;"), 0, 0, 1);
        row(at("n0,0,1;w0,0;w0,0;w3,0;u0,20;"), 0, 0);
        // FOOT 0, at 96, is lifted to 99, not to 116.
        NightLevel high = at("n0,9,1;w60,1;w60,1;w60,1;d0,20;d0,18;");
        for (int i = 0; i < 3; i++) {
            high.jack(0, 12);
            high.jack(1, 13);
            high.jack(2, 13);
        }
        row(high, 0, 0);
        row(high, 24, 0);
    }

    @Says(promise = 24, sentence = "SOFT 0 to 9.")
    static void planDoesNotSinkByMoreThanNine() {
        row(at("n0,9,1;w50,9;w60,9;w55,9;s0,10;"), 1, 0);
        row(at("n0,9,1;w50,8;w60,8;w55,8;d0,3;s0,10;s0,11;"), 1, 2);
    }

    @Says(promise = 24, sentence = "how many; the k-th of the row; NONE.")
    static void noRowIsLevel() {
        NightLevel x = at("n0,0,1;w10,0;w60,0;w13,0;d0,4;d0,2;d2,3;d0,6;");
        due("how many", x.plan(0, -1), NONE);
        due("the 0-th", x.plan(0, 0), NONE);
        due("by far", x.plan(24, MOST), NONE);
        due("of seven", at("n0,0,1;w0,0;w60,0;w60,0;u0,1;d2,2;t0,3;o0,4;t0,5;s1,6;d0,7;").plan(0, -1), NONE);
        NightLevel y = at("n0,0,1;w6,0;w5,0;w5,0;d0,1;");
        y.perform(0);
        due("all are DONE", y.plan(0, -1), NONE);
        due("all are DONE", y.plan(0, 0), NONE);
    }

    @Says(promise = 24, sentence = "PLAN for n HOURS (0 to 24)")
    static void planForZeroToTwentyFourHours() {
        NightLevel x = at("n0,9,1;w60,1;w60,0;w60,0;d0,20;d0,4;d0,3;");
        row(x, 0);
        row(x, 23, 0, 2);
        row(x, 24, 0, 1);
        due("25", x.plan(25, -1), BAD);
        due("-1", x.plan(-1, -1), BAD);
    }

    @Says(promise = 24, sentence = "BAD: k below -1;")
    static void noSuchPlan() {
        refused(Probe::busy, BAD, x -> x.plan(0, -2), x -> x.plan(0, LEAST), x -> x.plan(-1, -1), x -> x.plan(25, -1),
            x -> x.plan(25, 0), x -> x.plan(LEAST, 0), x -> x.plan(MOST, 0));
    }

    @Says(promise = 24, sentence = "STATE: no SITE (ahead of BAD).")
    static void planWithoutASite() {
        refused(Probe::nowhere, STATE, x -> x.plan(0, -1), x -> x.plan(0, -2), x -> x.plan(25, 0), x -> x.plan(-1, 0));
    }

    @Says(promise = 24, sentence = "FORETOLD (nothing changes).")
    static void planChangesNothing() {
        quiet(Probe::busy, x -> x.plan(0, -1), x -> x.plan(24, 0), x -> x.plan(3, 1));
    }

    // ---- 25

    private static void boardsAre(NightLevel x, int n, int all, int left, int right, int nose) {
        due("boards for " + n, x.boards(n, -1), all);
        due("to FOOT 0 for " + n, x.boards(n, 0), left);
        due("to FOOT 1 for " + n, x.boards(n, 1), right);
        due("to FOOT 2 for " + n, x.boards(n, 2), nose);
    }

    @Says(promise = 25, sentence = "BOARDS: how many (j = -1), to FOOT j; NONE.")
    static void howManyBoardsToWhichFoot() {
        NightLevel x = at("n0,1,1;w30,3;w30,1;w30,2;d0,1;");
        boardsAre(x, 1, 2, 2, 0, 0);
        boardsAre(x, 3, 3, 2, 0, 1);
    }

    @Says(promise = 25, sentence = "the fewest boards laid now (0 to 3 to each FOOT")
    static void noneToThreeToEachFoot() {
        boardsAre(at(FIRM), 24, 0, 0, 0, 0);
        boardsAre(at("n0,9,1;w60,3;w60,0;w60,0;d0,1;"), 9, 3, 3, 0, 0);
        boardsAre(at("n0,9,1;w60,4;w60,0;w60,0;d0,1;"), 9, NONE, NONE, NONE, NONE);
        boardsAre(at("n0,9,1;w60,0;w60,3;w60,0;d0,1;"), 9, 3, 0, 3, 0);
        boardsAre(at("n0,9,1;w60,0;w60,4;w60,0;d0,1;"), 9, NONE, NONE, NONE, NONE);
        boardsAre(at("n0,0,1;w60,0;w60,0;w60,3;d0,1;"), 9, 3, 0, 0, 3);
        boardsAre(at("n0,0,1;w60,0;w60,0;w60,4;d0,1;"), 9, NONE, NONE, NONE, NONE);
        boardsAre(at("n0,0,1;w24,9;w24,9;w24,9;d0,1;"), 2, 0, 0, 0, 0);
        boardsAre(at("n0,0,1;w31,6;w31,6;w28,3;d0,1;"), 1, 0, 0, 0, 0);
        boardsAre(at("n0,0,1;w28,9;w28,9;w25,3;d0,1;"), 1, 9 - 3, 3, 3, 0);
        boardsAre(at("n0,0,1;w25,9;w25,9;w25,9;d0,1;"), 1, 0, 0, 0, 0);
    }

    @Says(promise = 25, sentence = "no more than SOFT)")
    static void noMoreBoardsThanSoft() {
        boardsAre(at("n0,9,1;w29,1;w30,0;w30,0;d0,1;"), 1, NONE, NONE, NONE, NONE);
        boardsAre(at("n0,9,1;w30,0;w29,1;w30,0;d0,1;"), 1, NONE, NONE, NONE, NONE);
        boardsAre(at("n0,0,1;w30,0;w30,0;w29,1;d0,1;"), 1, NONE, NONE, NONE, NONE);
        boardsAre(at("n0,9,1;w30,1;w30,0;w30,0;d0,1;"), 1, 1, 1, 0, 0);
        boardsAre(at("n0,9,1;w30,2;w30,0;w30,0;d0,1;"), 1, 2, 2, 0, 0);
    }

    @Says(promise = 25, sentence = "so that it is LEVEL behind them: how many;")
    static void levelBehindTheHoursNotNow() {
        boardsAre(at("n0,9,2;w31,1;w30,0;w30,0;d0,1;"), 1, 0, 0, 0, 0);
        boardsAre(at("n0,9,2;w31,1;w30,0;w30,0;d0,1;"), 2, 0, 0, 0, 0);
        boardsAre(at("n0,9,2;w31,1;w30,0;w30,0;d0,1;"), 3, NONE, NONE, NONE, NONE);
        NightLevel x = at("n0,9,2;w31,1;w30,0;w30,0;d0,1;");
        x.hours(1);
        boardsAre(x, 1, 0, 0, 0, 0);
        boardsAre(x, 2, 1, 1, 0, 0);
    }

    @Says(promise = 25, sentence = "how many to FOOT j, in the first such way (by FEET); NONE.")
    static void theFirstWayOfBoards() {
        // One board to either wheel puts MIDDLE at 30; the way 0 1 0 is ahead of 1 0 0.
        boardsAre(at("n9,0,1;w31,1;w30,1;w30,0;d0,1;"), 1, 1, 0, 1, 0);
        // MIDDLE is to be one higher: 0 2 0 is ahead of 1 1 0 and 2 0 0.
        boardsAre(at("n9,0,1;w30,3;w30,3;w28,0;d0,1;"), 1, 2, 0, 2, 0);
    }

    @Says(promise = 25, sentence = "HEIGHT is 0 to 99 always (cut at once)")
    static void boardsForFeetAtTheBottom() {
        boardsAre(at("n0,9,1;w5,9;w4,9;w0,0;d0,1;"), 1, 0, 0, 0, 0);
        // 0 by 9 less; with two boards FOOT 0 stands at 1, as FOOT 1 does.
        boardsAre(at("n0,9,1;w8,9;w1,0;w0,0;d0,1;"), 1, 2, 2, 0, 0);
    }

    @Says(promise = 25, sentence = "BOARDS for n HOURS (1 to 24)")
    static void boardsForOneToTwentyFourHours() {
        NightLevel x = at("n0,9,1;w60,2;w50,1;w45,0;d0,1;");
        boardsAre(x, 10, 0, 0, 0, 0);
        NightLevel y = at("n0,9,1;w60,1;w36,0;w40,0;d0,1;");
        boardsAre(y, 24, 0, 0, 0, 0);
        boardsAre(y, 23, NONE, NONE, NONE, NONE);
        due("25", y.boards(25, -1), BAD);
        due("0", y.boards(0, -1), BAD);
        due("1", at(FIRM).boards(1, -1), 0);
    }

    @Says(promise = 25, sentence = "BAD; STATE: no SITE (ahead of BAD).")
    static void noSuchBoards() {
        refused(Probe::busy, BAD, x -> x.boards(0, -1), x -> x.boards(25, -1), x -> x.boards(-1, -1), x -> x.boards(LEAST, 0),
            x -> x.boards(MOST, 0), x -> x.boards(1, -2), x -> x.boards(1, 3), x -> x.boards(1, LEAST), x -> x.boards(1, MOST));
    }

    @Says(promise = 25, sentence = "STATE: no SITE (ahead of BAD).")
    static void boardsWithoutASite() {
        refused(Probe::nowhere, STATE, x -> x.boards(1, -1), x -> x.boards(0, -1), x -> x.boards(1, 3));
    }

    @Says(promise = 25, sentence = "FORETOLD (nothing changes).")
    static void boardsChangeNothing() {
        quiet(Probe::busy, x -> x.boards(1, -1), x -> x.boards(24, 0), x -> x.boards(9, 2));
    }

    // ---- 26

    private static void liftIs(NightLevel x, int all, int left, int right, int nose) {
        due("lift", x.lift(-1), all);
        due("of FOOT 0", x.lift(0), left);
        due("of FOOT 1", x.lift(1), right);
        due("of FOOT 2", x.lift(2), nose);
    }

    @Says(promise = 26, sentence = "LIFT: how much (j = -1), of FOOT j; NONE.")
    static void howMuchToLiftWhichFoot() {
        liftIs(at(FIRM), 0, 0, 0, 0);
        liftIs(at("n0,0,1;w10,0;w16,0;w9,0;d0,1;"), 6 + 7, 6, 0, 7);
        liftIs(at("n2,3,4;w30,2;w22,1;w31,3;d0,1;"), 6, 0, 6, 0);
    }

    @Says(promise = 26, sentence = "LIFT: the least lifting of FEET now (0 to 20 each) by which it is LEVEL now: how much together;")
    static void noneToTwentyOfEach() {
        liftIs(at("n0,0,1;w10,0;w30,0;w30,0;d0,1;"), 20, 20, 0, 0);
        liftIs(at("n0,0,1;w10,0;w31,0;w31,0;d0,1;"), NONE, NONE, NONE, NONE);
        liftIs(at("n0,0,1;w30,0;w10,0;w30,0;d0,1;"), 20, 0, 20, 0);
        liftIs(at("n0,0,1;w31,0;w10,0;w31,0;d0,1;"), NONE, NONE, NONE, NONE);
        liftIs(at("n0,0,1;w30,0;w30,0;w10,0;d0,1;"), 20, 0, 0, 20);
        liftIs(at("n0,0,1;w31,0;w31,0;w10,0;d0,1;"), NONE, NONE, NONE, NONE);
        liftIs(at("n0,0,1;w10,0;w10,0;w30,0;d0,1;"), 40, 20, 20, 0);
        liftIs(at("n0,0,1;w10,0;w10,0;w31,0;d0,1;"), NONE, NONE, NONE, NONE);
        liftIs(at("n0,0,9;w10,9;w10,9;w10,0;d0,1;"), 0, 0, 0, 0);
    }

    @Says(promise = 26, sentence = "how much of FOOT j, in the first such way (by FEET); NONE.")
    static void theFirstWayOfLifting() {
        // MIDDLE is to be one higher: 0 2 0 is ahead of 1 1 0 and 2 0 0.
        liftIs(at("n9,0,1;w10,0;w10,0;w11,0;d0,1;"), 2, 0, 2, 0);
        liftIs(at("n1,0,1;w10,0;w10,0;w11,0;d0,1;"), 2, 1, 1, 0);
        // 10 and 11: one more of either is enough.
        liftIs(at("n9,0,1;w10,0;w11,0;w11,0;d0,1;"), 1, 0, 1, 0);
    }

    @Says(promise = 26, sentence = "HEIGHT is 0 to 99 always (cut at once)")
    static void liftingIsCutAtNinetyNine() {
        NightLevel x = at("n0,0,1;w60,0;w60,0;w60,0;d0,1;");
        for (int i = 0; i < 3; i++) x.jack(0, 13);
        for (int i = 0; i < 3; i++) x.jack(1, 12);
        for (int i = 0; i < 2; i++) x.jack(2, 18);
        same("as high", heights(x), "99 96 96");
        liftIs(x, 6, 0, 3, 3);
    }

    @Says(promise = 26, sentence = "BAD; STATE: no SITE (ahead of BAD).")
    static void noSuchLifting() {
        refused(Probe::busy, BAD, x -> x.lift(-2), x -> x.lift(3), x -> x.lift(LEAST), x -> x.lift(MOST));
    }

    @Says(promise = 26, sentence = "STATE: no SITE (ahead of BAD).")
    static void liftingWithoutASite() {
        refused(Probe::nowhere, STATE, x -> x.lift(-1), x -> x.lift(0), x -> x.lift(-2), x -> x.lift(3));
    }

    @Says(promise = 26, sentence = "FORETOLD (nothing changes).")
    static void liftingChangesNothing() {
        quiet(Probe::busy, x -> x.lift(-1), x -> x.lift(0), x -> x.lift(2));
    }

    // ---- 27

    @Says(promise = 27, sentence = "WORST: AWRY (what = 0), behind how many HOURS (1).")
    static void howBadAndWhen() {
        NightLevel x = at("n0,0,2;w20,1;w23,3;w21,0;d0,1;");
        // AWRY: 3 + 0 now; 19, 20: 1 + 2; 18, 17: 1 + 4; 17, 14: 3 + 6.
        int[][] both = {{3, 0}, {3, 0}, {3, 0}, {5, 3}, {5, 3}, {9, 5}, {9, 5}};
        for (int n = 0; n < both.length; n++) {
            due("AWRY within " + n, x.worst(n, 0), both[n][0]);
            due("when, within " + n, x.worst(n, 1), both[n][1]);
        }
    }

    @Says(promise = 27, sentence = "the greatest AWRY (now, too); behind how many HOURS it is so first.")
    static void nowTooAndFirst() {
        NightLevel now = at("n0,0,1;w9,3;w0,0;w4,0;d0,1;");
        due("now", now.worst(60, 0), 9);
        due("now", now.worst(60, 1), 0);
        due("within none", now.worst(0, 0), 9);
        NightLevel same = at("n0,0,1;w5,1;w0,0;w0,0;d0,1;");
        due("AWRY stays", same.worst(0, 0), 7);
        NightLevel flat = at(FIRM);
        due("never awry", flat.worst(60, 0), 0);
        due("so first", flat.worst(60, 1), 0);
        due("the first of many", at("n0,0,1;w3,1;w3,1;w60,0;d0,1;").worst(60, 1), 3);
    }

    @Says(promise = 27, sentence = "WORST within n HOURS (0 to 60)")
    static void worstWithinZeroToSixtyHours() {
        NightLevel x = at("n0,0,1;w60,1;w60,1;w60,0;d0,1;");
        due("0", x.worst(0, 0), 0);
        due("59", x.worst(59, 0), 59);
        due("60", x.worst(60, 0), 60);
        due("60", x.worst(60, 1), 60);
        due("61", x.worst(61, 0), BAD);
        due("-1", x.worst(-1, 0), BAD);
    }

    @Says(promise = 27, sentence = "HEIGHT is 0 to 99 always (cut at once)")
    static void atTheBottomItGetsNoWorse() {
        NightLevel x = at("n0,0,1;w5,9;w4,9;w0,0;d0,1;");
        due("AWRY", x.worst(60, 0), 1 + 4);
        due("now", x.worst(60, 1), 0);
    }

    @Says(promise = 27, sentence = "BAD; STATE: no SITE (ahead of BAD).")
    static void noSuchWorst() {
        refused(Probe::busy, BAD, x -> x.worst(-1, 0), x -> x.worst(61, 0), x -> x.worst(LEAST, 0), x -> x.worst(MOST, 0),
            x -> x.worst(0, -1), x -> x.worst(0, 2), x -> x.worst(0, LEAST), x -> x.worst(0, MOST));
    }

    @Says(promise = 27, sentence = "STATE: no SITE (ahead of BAD).")
    static void worstWithoutASite() {
        refused(Probe::nowhere, STATE, x -> x.worst(0, 0), x -> x.worst(61, 0), x -> x.worst(0, 2));
    }

    @Says(promise = 27, sentence = "FORETOLD (nothing changes).")
    static void worstChangesNothing() {
        quiet(Probe::busy, x -> x.worst(0, 0), x -> x.worst(60, 1), x -> x.worst(30, 0));
    }
}
