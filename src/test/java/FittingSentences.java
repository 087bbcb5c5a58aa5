import java.math.BigInteger;

/** Promises 28 to 34: what was done by how it leaned, likelihoods, nights by draws, images. */
final class FittingSentences extends Probe {

    /** SIDE 4, ALONG 12; FOOT 0 sinks by 1 at HOURS 0, 2, 4 and so on. */
    private static final String ASIDE = "n0,0,2;w20,1;w16,0;w30,0;d1,4;u2,6;o0,6;t2,6;";
    private static final int[] TWELVE = {-1, -1, -2, -2, -3, -3, -4, -4, -5, -5, -6, -6};

    private static Call asked(String call, int deed, int which, int row, int i, int n) {
        if (call.equals("who")) return x -> x.who(deed, which, row, i, n);
        if (call.equals("feet")) return x -> x.feet(deed, which, row, i, n);
        return x -> x.amounts(deed, which, row, i, n);
    }

    private static void noSuchRowTold(String call) {
        refused(Probe::busy, BAD, asked(call, -1, 0, 0, 0, 1), asked(call, 7, 0, 0, 0, 1), asked(call, LEAST, 0, 0, 0, 1),
            asked(call, MOST, 0, 0, 0, 1), asked(call, 0, -1, 0, 0, 1), asked(call, 0, 2, 0, 0, 1), asked(call, 0, LEAST, 0, 0, 1),
            asked(call, 0, MOST, 0, 0, 1), asked(call, 0, 0, -1, 0, 1), asked(call, 0, 0, 8, 0, 1), asked(call, 0, 0, LEAST, 0, 1),
            asked(call, 0, 0, MOST, 0, 1), asked(call, 0, 0, 0, 0, 0), asked(call, 0, 0, 0, 0, -1), asked(call, 0, 0, 0, 0, 13),
            asked(call, 0, 0, 0, 0, LEAST), asked(call, 0, 0, 0, 0, MOST));
        refused(Probe::nowhere, BAD, asked(call, 0, 0, 0, 0, 1));
    }

    private static void missingRowTold(String call) {
        found(Probe::busy, NULL, asked(call, 0, 0, 4, 0, 1), asked(call, 0, 1, 7, 0, 12), asked(call, 0, 0, 5, -1, 1));
    }

    private static void noPlaceOfARowTold(String call) {
        found(Probe::busy, PLACE, asked(call, 0, 0, 0, -1, 1), asked(call, 0, 0, 0, 4, 1), asked(call, 0, 0, 0, 0, 5),
            asked(call, 0, 0, 0, 1, 4), asked(call, 0, 0, 0, LEAST, 1), asked(call, 0, 0, 0, MOST, 12), asked(call, 0, 0, 3, 0, 1));
        NightLevel x = withRow(ASIDE, 1, 2, 3);
        due("the last place", asked(call, 0, 0, 0, 2, 1).on(x) >= 0 ? 1 : 0, 1);
        due("all places", asked(call, 0, 0, 0, 0, 3).on(x) >= 0 ? 1 : 0, 1);
    }

    private static void deedIsDone(String call) {
        refused(Probe::busy, STATE, asked(call, 1, 0, 0, 0, 1), asked(call, 3, 1, 0, 0, 4));
        found(Probe::busy, NULL, asked(call, 1, 0, 4, 0, 1), asked(call, 3, 0, 4, -1, 1));
        found(Probe::busy, PLACE, asked(call, 1, 0, 0, 4, 1), asked(call, 3, 0, 0, -1, 1));
        refused(Probe::busy, BAD, asked(call, 1, 2, 0, 0, 1), asked(call, 1, 0, 8, 0, 1), asked(call, 1, 0, 0, 0, 13));
    }

    /** All FEET at 99, HOUR 1 of RAIN 9, a DEED that lifts by 20. */
    private static NightLevel atTheTop() {
        NightLevel x = at("n0,0,9;w60,0;w60,0;w60,0;d0,20;");
        for (int i = 0; i < 9; i++) x.jack(i % 3, 13);
        x.hours(1);
        return x;
    }

    // ---- 28

    @Says(promise = 28, sentence = "KINDS by SIDE (which = 0), ALONG (1), n ITEMS of a ROW from i on.")
    static void kindsThatFit() {
        due("driven", withRow(ASIDE, -1, -1, -2).who(0, 0, 0, 0, 3), 1 << 1);
        due("overshot", withRow(ASIDE, 0, 0, -1).who(0, 0, 0, 0, 3), 1 << 2);
        due("sunk", withRow(ASIDE, 0, 0, 0).who(0, 0, 0, 0, 3), 1 << 3);
        due("overshot or sunk", withRow(ASIDE, 0, 0, 0).who(0, 0, 0, 0, 2), 1 << 2 | 1 << 3);
        due("wound", withRow(ASIDE, 3, 3, 2).who(0, 0, 0, 0, 3), 1 << 4);
        due("turned", withRow(ASIDE, -3, -3, -2).who(0, 0, 0, 0, 3), 1 << 5);
        due("none", withRow(ASIDE, 4).who(0, 0, 0, 0, 1), 0);
        due("by ALONG", withRow(ASIDE, 11).who(0, 1, 0, 0, 1), 1 << 1 | 1 << 2 | 1 << 3 | 1 << 5);
        due("by ALONG, wound", withRow(ASIDE, 9).who(0, 1, 0, 0, 1), 1 << 4);
        due("from 2 on", withRow(ASIDE, 9, 9, -1, -1).who(0, 0, 0, 2, 2), 1 << 1);
    }

    @Says(promise = 28, sentence = "KINDS (bits 1 to 5) of it")
    static void allKindsMayFit() {
        // The nose is at 0 and stays there by none of lifting it; SIDE is 0 by every KIND of FOOT 2.
        due("all five", withRow("n0,0,1;w9,0;w9,0;w0,0;d2,4;", 0).who(0, 0, 0, 0, 1), 62);
        due("none", withRow("n0,0,1;w9,0;w9,0;w0,0;d2,4;", 1).who(0, 0, 0, 0, 1), 0);
    }

    @Says(promise = 28, sentence = "A row tells SIDE (or ALONG) behind each of n HOURS (1 to 12) from now on, if a DEED that is not DONE were DONE now.")
    static void oneToTwelveHoursAreTold() {
        NightLevel x = withRow(ASIDE, -1, -1, -2, -2, -3, -3, -4, -4, -5, -5, -6, -6, -7);
        for (int n = 1; n <= 12; n++) due("n " + n, x.who(0, 0, 0, 0, n), 1 << 1);
        due("n 13", x.who(0, 0, 0, 0, 13), BAD);
        due("n 0", x.who(0, 0, 0, 0, 0), BAD);
        for (int wrong = 0; wrong < 12; wrong++) {
            NightLevel y = withRow(ASIDE, TWELVE);
            y.set(0, wrong, -TWELVE[wrong]);
            due("wrong behind " + wrong, y.who(0, 0, 0, 0, 12), 0);
            if (wrong > 0) due("right up to it", y.who(0, 0, 0, 0, wrong), 1 << 1);
        }
        x.hours(1);
        // From HOUR 1 on: FOOT 0 at 19; it rains at HOUR 2.
        due("from now on", x.who(0, 0, 0, 1, 3), 1 << 1);
        x.perform(2);
        // FOOT 0 is 4 higher: SIDE 7 less 4; it does not rain in HOUR 1, so that sunk fits, too.
        x.set(0, 0, 3);
        due("upon what is DONE", x.who(0, 0, 0, 0, 1), 1 << 1 | 1 << 3);
    }

    @Says(promise = 28, sentence = "or have a LANE (0 bytes, 1 shorts, 2 ints)")
    static void rowsOfEachLaneAreRead() {
        for (int lane = 0; lane < 3; lane++) {
            NightLevel x = at(ASIDE);
            x.row(7, lane, 40);
            x.set(7, 38, -1);
            x.set(7, 39, -1);
            due("the last two, LANE " + lane, x.who(0, 0, 7, 38, 2), 1 << 1);
            x.set(7, 39, 255);
            due("255, LANE " + lane, x.who(0, 0, 7, 38, 2), lane == 0 ? 1 << 1 : 0);
        }
    }

    @Says(promise = 28, sentence = "HEIGHT is 0 to 99 always (cut at once)")
    static void kindsAreCutAtNinetyNine() {
        // HOUR 1, so that it does not rain: at 99 no KIND makes SIDE another.
        NightLevel x = atTheTop();
        x.row(0, 0, 1);
        due("all five", x.who(0, 0, 0, 0, 1), 62);
    }

    @Says(promise = 28, sentence = "SOFT 0 to 9.")
    static void kindsDoNotSinkByMoreThanNine() {
        due("sunk as driven", withRow("n0,9,1;w50,9;w60,9;w55,0;d0,10;", 0, 0).who(0, 0, 0, 0, 2), 1 << 1 | 1 << 3);
        due("not at 8", withRow("n0,9,1;w50,8;w60,8;w55,0;d0,10;", 0, 0).who(0, 0, 0, 0, 2), 1 << 1);
    }

    @Says(promise = 28, sentence = "BAD: DEED, which, ROW, n;")
    static void whoOfNoSuch() {
        noSuchRowTold("who");
    }

    @Says(promise = 28, sentence = "NULL; PLACE; STATE")
    static void whoOfAMissingRow() {
        missingRowTold("who");
    }

    @Says(promise = 28, sentence = "PLACE; STATE")
    static void whoAtNoPlace() {
        noPlaceOfARowTold("who");
    }

    @Says(promise = 28, sentence = "STATE: it is DONE (behind these).")
    static void whoOfADeedThatIsDone() {
        deedIsDone("who");
    }

    @Says(promise = 28, sentence = "Refusals are answers, the first of these that fits, but as told")
    static void badRowsToldAreAheadOfFindings() {
        for (String call : new String[] {"who", "feet", "amounts"}) {
            refused(Probe::busy, BAD, asked(call, 7, 0, 4, 0, 1), asked(call, 0, 2, 4, 0, 1), asked(call, 0, 0, 4, -1, 13),
                asked(call, 0, 0, 0, -1, 0));
            found(Probe::busy, NULL, asked(call, 0, 0, 4, -1, 1));
        }
    }

    @Says(promise = 28, sentence = "FORETOLD (nothing changes).")
    static void whoChangesNothing() {
        quiet(Probe::busy, x -> x.who(0, 0, 0, 0, 1), x -> x.who(4, 1, 0, 0, 4), x -> x.who(6, 0, 1, 1, 2));
    }

    // ---- 29

    @Says(promise = 29, sentence = "FEET, likewise.")
    static void feetThatFit() {
        due("the left wheel", withRow(ASIDE, 7, 7, 6).feet(0, 0, 0, 0, 3), 1);
        due("the right one", withRow(ASIDE, -1, -1, -2).feet(0, 0, 0, 0, 3), 2);
        due("the nose", withRow(ASIDE, 3, 3, 2).feet(0, 0, 0, 0, 3), 4);
        due("both wheels", withRow(ASIDE, 11).feet(0, 1, 0, 0, 1), 3);
        due("none", withRow(ASIDE, 4).feet(0, 0, 0, 0, 1), 0);
        due("12 HOURS", withRow(ASIDE, TWELVE).feet(0, 0, 0, 0, 12), 2);
    }

    @Says(promise = 29, sentence = "FEET (bits) of it")
    static void allFeetMayFit() {
        due("all, if it is wound", withRow(ASIDE, 3).feet(1, 0, 0, 0, 1), 7);
        due("all, if it is turned", withRow(ASIDE, -3).feet(3, 0, 0, 0, 1), 7);
        due("none, if it is turned", withRow(ASIDE, 3).feet(3, 0, 0, 0, 1), 0);
    }

    @Says(promise = 29, sentence = "FEET, likewise")
    static void feetAreRefusedLikewise() {
        noSuchRowTold("feet");
        missingRowTold("feet");
        noPlaceOfARowTold("feet");
        deedIsDone("feet");
    }

    @Says(promise = 29, sentence = "HEIGHT is 0 to 99 always (cut at once)")
    static void feetAreCutAtNinetyNine() {
        NightLevel x = atTheTop();
        x.row(0, 0, 1);
        due("all three", x.feet(0, 0, 0, 0, 1), 7);
    }

    @Says(promise = 29, sentence = "FORETOLD (nothing changes).")
    static void feetChangeNothing() {
        quiet(Probe::busy, x -> x.feet(0, 0, 0, 0, 1), x -> x.feet(4, 1, 0, 0, 4), x -> x.feet(6, 0, 1, 1, 2));
    }

    // ---- 30

    @Says(promise = 30, sentence = "AMOUNTS, likewise.")
    static void amountsThatFit() {
        for (int amount = 1; amount <= 20; amount++) {
            due("driven by " + amount, withRow(ASIDE, 3 - amount).amounts(0, 0, 0, 0, 1), 1 << amount);
        }
        due("12 HOURS", withRow(ASIDE, TWELVE).amounts(0, 0, 0, 0, 12), 1 << 4);
        due("two of overshot", withRow(ASIDE, 6, 6, 5).amounts(2, 0, 0, 0, 3), 1 << 4 | 1 << 5);
        due("one of overshot", withRow(ASIDE, 4).amounts(2, 0, 0, 0, 1), 1 << 1);
        due("one of overshot", withRow(ASIDE, 14).amounts(2, 0, 0, 0, 1), 1 << 20);
        due("one of wound, by ALONG", withRow(ASIDE, 11).amounts(1, 1, 0, 0, 1), 1 << 2);
        due("two of turned, by ALONG", withRow(ASIDE, 11).amounts(3, 1, 0, 0, 1), 1 << 4 | 1 << 5);
    }

    @Says(promise = 30, sentence = "AMOUNTS (1 to 20, bits) of it by which it is so.")
    static void oneToTwentyMayFit() {
        due("0 is none", withRow(ASIDE, 3).amounts(0, 0, 0, 0, 1), 0);
        due("1", withRow(ASIDE, 2).amounts(0, 0, 0, 0, 1), 1 << 1);
        due("20", withRow(ASIDE, -17).amounts(0, 0, 0, 0, 1), 1 << 20);
        due("21 is none", withRow(ASIDE, -18).amounts(0, 0, 0, 0, 1), 0);
        due("all", withRow(ASIDE, -3).amounts(3, 0, 0, 0, 1), (1 << 21) - 2);
    }

    @Says(promise = 30, sentence = "AMOUNTS, likewise")
    static void amountsAreRefusedLikewise() {
        noSuchRowTold("amounts");
        missingRowTold("amounts");
        noPlaceOfARowTold("amounts");
        deedIsDone("amounts");
    }

    @Says(promise = 30, sentence = "HEIGHT is 0 to 99 always (cut at once)")
    static void amountsAreCutAtNinetyNine() {
        NightLevel x = at("n0,0,1;w60,1;w60,0;w60,0;d0,20;");
        x.jack(0, 20);
        x.jack(0, 9);
        x.row(0, 2, 1);
        x.set(0, 0, 38);
        due("10 and more, one less by rain", x.amounts(0, 0, 0, 0, 1), (1 << 21) - (1 << 10));
        x.set(0, 0, 37);
        due("9", x.amounts(0, 0, 0, 0, 1), 1 << 9);
    }

    @Says(promise = 30, sentence = "FORETOLD (nothing changes).")
    static void amountsChangeNothing() {
        quiet(Probe::busy, x -> x.amounts(0, 0, 0, 0, 1), x -> x.amounts(4, 1, 0, 0, 4), x -> x.amounts(6, 0, 1, 1, 2));
    }

    // ---- 31

    private static void chance(NightLevel x, int p, int above, int below) {
        due("above, by " + p, x.wrong(p, 0), above);
        due("below, by " + p, x.wrong(p, 1), below);
    }

    @Says(promise = 31, sentence = "WRONG: above (what = 0), below (1).")
    static void aboveAndBelow() {
        chance(at("n0,9,1;w5,0;w5,0;w5,0;d0,1;d1,1;"), 3, 29, 50);
        chance(at("n0,9,1;w5,0;w5,0;w5,0;d0,1;d1,1;"), 1, 41, 50);
    }

    @Says(promise = 31, sentence = "but fractions, told as two numbers in lowest terms (0 is 0 by 1).")
    static void inLowestTerms() {
        chance(at(FIRM), 5, 1, 2);
        chance(at(FIRM), 4, 2, 5);
        chance(at(FIRM), 3, 3, 10);
        chance(at(FIRM), 10, 1, 1);
        chance(at(FIRM), 0, 0, 1);
        chance(at("n0,0,1;w0,0;w60,0;w0,0;d0,1;d0,1;d0,1;d0,1;d0,1;d0,1;d0,1;"), 5, 0, 1);
        chance(at("n7,9,1;w0,0;w0,0;w0,0;d0,1;d0,1;d0,1;d0,1;d0,1;d0,1;d0,1;"), 3, 1, 1);
        chance(at("n0,0,1;w0,0;w0,0;w0,0;d0,1;d0,1;d0,1;d0,1;d0,1;d0,1;d0,1;"), 3, 2187, 10000000);
        chance(at("n0,0,1;w0,0;w0,0;w0,0;d0,1;d0,1;d0,1;d0,1;d0,1;d0,1;d0,1;"), 9, 4782969, 10000000);
    }

    @Says(promise = 31, sentence = "WRONG by p of 10 (0 to 10): of the DEEDS that are not DONE each is DONE now, by numbers, but in p of 10 cases it is not, apart: how likely it is LEVEL then: a fraction.")
    static void zeroToTenOfTen() {
        for (int p = 1; p <= 9; p++) {
            NightLevel x = at("n0,9,1;w5,0;w6,0;w5,0;d0,1;");
            due("LEVEL if it is DONE, by " + p, x.wrong(p, 0) * 10, (10 - p) * x.wrong(p, 1));
        }
        chance(at("n0,9,1;w5,0;w6,0;w5,0;d0,1;"), 0, 1, 1);
        chance(at("n0,9,1;w5,0;w6,0;w5,0;d0,1;"), 10, 0, 1);
        // By numbers: turned, then lifted, is not LEVEL; lifted, then turned, is.
        chance(at("n0,9,1;w5,0;w6,0;w5,0;t0,1;d0,1;"), 0, 0, 1);
        chance(at("n0,9,1;w5,0;w6,0;w5,0;d0,1;t0,1;"), 0, 1, 1);
        chance(at("n0,9,1;w5,0;w6,0;w5,0;t0,1;d0,1;"), 5, 1, 4);
    }

    @Says(promise = 31, sentence = "of the DEEDS that are not DONE each is DONE now")
    static void whatIsDoneIsNotDoneAgain() {
        NightLevel x = at("n0,9,1;w5,0;w5,0;w5,0;d0,1;d1,1;");
        x.perform(0);
        chance(x, 3, 7, 10);
        x.perform(1);
        chance(x, 3, 1, 1);
        x.jack(0, 1);
        chance(x, 3, 0, 1);
        chance(x, 10, 0, 1);
    }

    @Says(promise = 31, sentence = "HEIGHT is 0 to 99 always (cut at once)")
    static void likelihoodIsCutAtOnce() {
        chance(atTheTop(), 5, 1, 1);
        // The nose, at 3, is lowered to 0, not to -17; lifted by 2 then it is LEVEL.
        chance(at("n0,0,1;w2,0;w2,0;w3,0;u0,20;d2,2;"), 0, 1, 1);
        chance(at("n0,0,1;w2,0;w2,0;w3,0;u0,20;d2,2;"), 1, 81, 100);
    }

    @Says(promise = 31, sentence = "BAD; STATE: no SITE (ahead of BAD).")
    static void noSuchWrong() {
        refused(Probe::busy, BAD, x -> x.wrong(-1, 0), x -> x.wrong(11, 0), x -> x.wrong(LEAST, 0), x -> x.wrong(MOST, 1),
            x -> x.wrong(0, -1), x -> x.wrong(0, 2), x -> x.wrong(0, LEAST), x -> x.wrong(0, MOST));
    }

    @Says(promise = 31, sentence = "STATE: no SITE (ahead of BAD).")
    static void wrongWithoutASite() {
        refused(Probe::nowhere, STATE, x -> x.wrong(0, 0), x -> x.wrong(11, 0), x -> x.wrong(0, 2));
    }

    @Says(promise = 31, sentence = "FORETOLD (nothing changes).")
    static void wrongChangesNothing() {
        quiet(Probe::busy, x -> x.wrong(0, 0), x -> x.wrong(10, 1), x -> x.wrong(3, 0));
    }

    // ---- 32

    /** X of SEED 1 is 16807, 282475249, 1622650073, 984943658: by two 1, 1, 1, 0. */
    private static final String DRAWN = "n0,9,2;w20,1;w20,0;w20,0;d0,4;d0,2;";

    @Says(promise = 32, sentence = "NIGHTS by a SEED (1 to 999999): AWRY (what = 0), how many HOURS (1).")
    static void nightsBySeeds() {
        NightLevel x = at(DRAWN);
        int[][] both = {{0, 0}, {1, 0}, {1, 0}, {0, 1}, {6, 1}};
        for (int n = 0; n < both.length; n++) {
            due("AWRY behind " + n, x.drawn(n, 1, 0), both[n][0]);
            due("LEVEL within " + n, x.drawn(n, 1, 1), both[n][1]);
        }
    }

    @Says(promise = 32, sentence = "BAD; STATE: no SITE (ahead of BAD).")
    static void noSuchNight() {
        refused(Probe::busy, BAD, x -> x.drawn(-1, 1, 0), x -> x.drawn(61, 1, 0), x -> x.drawn(LEAST, 1, 0), x -> x.drawn(MOST, 1, 0),
            x -> x.drawn(1, 0, 0), x -> x.drawn(1, -1, 0), x -> x.drawn(1, 1000000, 0), x -> x.drawn(1, LEAST, 0),
            x -> x.drawn(1, MOST, 0), x -> x.drawn(1, 1, -1), x -> x.drawn(1, 1, 2), x -> x.drawn(1, 1, LEAST), x -> x.drawn(1, 1, MOST));
    }

    @Says(promise = 32, sentence = "STATE: no SITE (ahead of BAD).")
    static void nightWithoutASite() {
        refused(Probe::nowhere, STATE, x -> x.drawn(0, 1, 0), x -> x.drawn(61, 1, 0), x -> x.drawn(0, 0, 0), x -> x.drawn(0, 1, 2));
    }

    @Says(promise = 32, sentence = "NIGHTS of n HOURS (0 to 60) by a SEED (X at first)")
    static void zeroToSixtyHoursDrawn() {
        NightLevel x = at(DRAWN);
        due("0: AWRY now", x.drawn(0, 1, 0), 0);
        due("0: no HOUR, though LEVEL now", x.drawn(0, 1, 1), 0);
        NightLevel y = at("n9,9,1;w60,1;w60,1;w60,0;d0,1;");
        // SIDE 1; MIDDLE is 60 - n, so that ALONG is n; 60 HOURS sink FOOT 1 to 0 and FOOT 0 to 1.
        due("59", y.drawn(59, 1, 0), 1 + 59);
        due("60", y.drawn(60, 999999, 0), 1 + 60);
        due("LEVEL in nine", y.drawn(60, 1, 1), 9);
        due("LEVEL in all", at("n9,9,1;w5,0;w5,0;w5,0;d0,1;").drawn(60, 999999, 1), 60);
        due("LEVEL in none", at(FIRM).drawn(60, 1, 1), 0);
    }

    @Says(promise = 32, sentence = "ahead of each X becomes the rest of (X times 16807) by 2147483647;")
    static void drawsOfTheGreatestSeed() {
        // The AMOUNTS tell which were drawn; X is worked out with big numbers.
        BigInteger x = BigInteger.valueOf(999999);
        NightLevel y = at("n0,0,1;w0,0;w0,0;w0,0;d0,1;d0,2;d0,4;d0,8;d0,16;");
        int done = 0;
        for (int n = 1; n <= 60; n++) {
            x = x.multiply(BigInteger.valueOf(16807)).mod(BigInteger.valueOf(2147483647));
            done |= 1 << x.mod(BigInteger.valueOf(5)).intValue();
            due("AWRY behind " + n, y.drawn(n, 999999, 0), done + done / 2);
        }
    }

    @Says(promise = 32, sentence = "the DEED that is the rest of X by how many there are is DONE, if it is not: AWRY then; in how many of these HOURS it was LEVEL behind it.")
    static void aDrawnDeedIsDoneOnce() {
        NightLevel x = at(DRAWN);
        due("DEED 1, and no more", x.drawn(3, 1, 0), 0);
        x.perform(1);
        due("it is DONE", x.drawn(1, 1, 0), 1 + 0);
        due("DEED 0, too", x.drawn(4, 1, 0), 4 + 2);
        x.perform(0);
        due("all are DONE", x.drawn(4, 1, 0), 4 + 2);
        // By all there are, not by those that are left: X of SEED 1 by one would be DEED 0.
        NightLevel y = at(DRAWN);
        y.perform(1);
        due("none of them", y.drawn(2, 1, 0), 1 + 0);
    }

    @Says(promise = 32, sentence = "HEIGHT is 0 to 99 always (cut at once)")
    static void nightsAreCutAtOnce() {
        due("at 99", atTheTop().drawn(9, 1, 0), 0);
        due("at 99", atTheTop().drawn(9, 1, 1), 9);
        due("at 0", at("n0,0,1;w5,9;w5,8;w5,5;u0,20;").drawn(60, 1, 0), 0);
        due("at 0", at("n0,0,1;w5,9;w5,8;w5,5;u0,20;").drawn(60, 1, 1), 60);
    }

    @Says(promise = 32, sentence = "SOFT 0 to 9.")
    static void nightsDoNotSinkByMoreThanNine() {
        // 49 less 9, 40 less 9: SIDE 9, MIDDLE 35; then SIDE 9, MIDDLE 26.
        due("behind 1", at("n9,9,1;w40,9;w40,9;w30,0;s0,9;").drawn(1, 1, 0), 9 + 5);
        due("behind 2", at("n9,9,1;w40,9;w40,9;w30,0;s0,9;").drawn(2, 1, 0), 9 + 4);
    }

    @Says(promise = 32, sentence = "FORETOLD (nothing changes).")
    static void nightsChangeNothing() {
        quiet(Probe::busy, x -> x.drawn(0, 1, 0), x -> x.drawn(60, 999999, 1), x -> x.drawn(30, 77, 0));
    }

    // ---- 33

    @Says(promise = 33, sentence = "An IMAGE (0, 1) is kept of the SITE: 1.")
    static void anImageIsKept() {
        NightLevel x = at(SEVEN);
        x.hours(5);
        x.perform(1);
        String kept = night(x) + law(x);
        due("image(1)", x.image(1), 1);
        same("the SITE stays", night(x) + law(x), kept);
        due("ACTS stay", x.count(6), 6);
        x.jack(0, 20);
        x.amount(0, 1);
        x.board(2);
        x.hours(7);
        due("image(0)", x.image(0), 1);
        String other = night(x) + law(x);
        x.restore(1);
        same("1", night(x) + law(x), kept);
        x.restore(0);
        same("0", night(x) + law(x), other);
        x.jack(0, 1);
        String third = night(x) + law(x);
        due("in place of the one before", x.image(1), 1);
        x.undo();
        x.restore(1);
        same("the latest", night(x) + law(x), third);
    }

    @Says(promise = 33, sentence = "BAD; STATE: no SITE.")
    static void noSuchImage() {
        refused(Probe::busy, BAD, x -> x.image(-1), x -> x.image(2), x -> x.image(LEAST), x -> x.image(MOST));
        refused(Probe::nowhere, BAD, x -> x.image(-1), x -> x.image(2));
    }

    @Says(promise = 33, sentence = "STATE: no SITE.")
    static void anImageWithoutASite() {
        refused(Probe::nowhere, STATE, x -> x.image(0), x -> x.image(1));
        NightLevel x = nowhere();
        x.image(0);
        due("none was kept", x.restore(0), STATE);
    }

    // ---- 34

    @Says(promise = 34, sentence = "The SITE is as an IMAGE kept it")
    static void theSiteIsAsAnImageKeptIt() {
        NightLevel x = at(FIVE);
        String five = night(x) + law(x);
        x.image(0);
        due("another", told(x, SEVEN), 7);
        x.hours(7);
        due("restore", x.restore(0), 1);
        same("the SITE before", night(x) + law(x), five);
        due("its DEEDS", x.count(1), 5);
        x.perform(0);
        x.amount(1, 20);
        x.hours(24);
        due("again", x.restore(0), 1);
        same("as it was kept", night(x) + law(x), five);
    }

    @Says(promise = 34, sentence = "(no ACT can be undone then): 1.")
    static void noActCanBeUndoneThen() {
        NightLevel x = at(FIVE);
        x.jack(0, 1);
        x.image(1);
        x.jack(0, 2);
        due("restore", x.restore(1), 1);
        due("ACTS", x.count(6), 0);
        due("undo", x.undo(), STATE);
        due("HEIGHT", x.foot(0, 0), 11);
        x.jack(0, 3);
        due("an ACT since then", x.undo(), 0);
        due("no more", x.undo(), STATE);
    }

    @Says(promise = 34, sentence = "BAD; STATE: none was kept.")
    static void noSuchImageToRestore() {
        refused(Probe::busy, BAD, x -> x.restore(-1), x -> x.restore(2), x -> x.restore(LEAST), x -> x.restore(MOST));
        refused(Probe::nowhere, BAD, x -> x.restore(-1), x -> x.restore(2));
    }

    @Says(promise = 34, sentence = "STATE: none was kept.")
    static void noImageWasKept() {
        refused(Probe::nowhere, STATE, x -> x.restore(0), x -> x.restore(1));
        NightLevel x = at(FIVE);
        x.image(1);
        x.jack(0, 1);
        due("of the other", x.restore(0), STATE);
        due("ACTS stay", x.count(6), 1);
        due("the one that was kept", x.restore(1), 1);
    }
}
