/** Promises 10 to 17: what is done, and what block 2 of the Terms says of HEIGHT, DEEDS and HOURS. */
final class DoneSentences extends Probe {

    private static NightLevel late(int hour) {
        NightLevel x = at(SEVEN);
        for (int left = hour; left > 0; left -= 24) x.hours(Math.min(24, left));
        return x;
    }

    /** One DEED of a sort at FOOT and AMOUNT, upon these HEIGHTS; SOFT 1, 2, 3. */
    private static NightLevel one(String deed, int left, int right, int nose) {
        return at("n0,0,1;w" + left + ",1;w" + right + ",2;w" + nose + ",3;" + deed + ";");
    }

    // ---- 10

    @Says(promise = 10, sentence = "n HOURS (1 to 24), an ACT each: AWRY then.")
    static void oneToTwentyFourHours() {
        for (int n = 1; n <= 24; n++) {
            NightLevel x = at("n0,0,1;w60,1;w60,0;w60,0;d0,1;");
            // SIDE -n; MIDDLE (120 - n) / 2, cut, so that ALONG is half of n + 1, cut.
            due("hours(" + n + ")", x.hours(n), n + (n + 1) / 2);
            due("HOUR", x.count(3), n);
            due("ACTS", x.count(6), n);
            due("one undone", x.undo(), n - 1);
            due("HOUR", x.count(3), n - 1);
            due("HEIGHT", x.foot(0, 0), 60 - (n - 1));
        }
    }

    @Says(promise = 10, sentence = "BAD; STATE: no SITE (ahead of BAD); FULL")
    static void noHoursOrTooMany() {
        refused(Probe::busy, BAD, x -> x.hours(0), x -> x.hours(-1), x -> x.hours(25), x -> x.hours(LEAST), x -> x.hours(MOST));
    }

    @Says(promise = 10, sentence = "STATE: no SITE (ahead of BAD)")
    static void hoursWithoutASite() {
        refused(Probe::nowhere, STATE, x -> x.hours(1), x -> x.hours(24), x -> x.hours(0), x -> x.hours(25));
    }

    @Says(promise = 10, sentence = "FULL: HOUR would be above 999.")
    static void hoursNotAboveNineHundredNinetyNine() {
        refused(() -> late(990), FULL, x -> x.hours(10), x -> x.hours(24));
        refused(() -> late(999), FULL, x -> x.hours(1), x -> x.hours(24));
        NightLevel x = late(990);
        x.hours(9);
        due("up to 999", x.count(3), 999);
        due("above", x.hours(1), FULL);
        x.undo();
        x.hours(1);
        due("up to 999 again", x.count(3), 999);
    }

    @Says(promise = 10, sentence = "Refusals are answers, the first of these that fits, but as told")
    static void badHoursAreAheadOfFull() {
        refused(() -> late(999), BAD, x -> x.hours(0), x -> x.hours(25), x -> x.hours(MOST));
    }

    @Says(promise = 10, sentence = "STATE (as told), FULL (as told)")
    static void stateBadAndFullInTheirOrder() {
        due("no SITE, no HOURS", nowhere().hours(0), STATE);
        due("no HOURS, HOUR 999", late(999).hours(0), BAD);
        due("HOUR 999", late(999).hours(1), FULL);
        due("up to HOUR 999", late(998).hours(1) >= 0 ? 1 : 0, 1);
    }

    @Says(promise = 10, sentence = "An HOUR: if HOUR is a multiple of RAIN, HEIGHT of each FOOT is SOFT less.")
    static void itRainsAtEachMultiple() {
        for (int rain = 1; rain <= 9; rain++) {
            NightLevel x = at("n0,0," + rain + ";w60,1;w60,2;w60,0;d0,1;");
            int rains = 0;
            for (int hour = 0; hour < 20; hour++) {
                if (hour % rain == 0) rains++;
                x.hours(1);
                due("FOOT 0, RAIN " + rain + ", HOUR " + hour, x.foot(0, 0), 60 - rains);
                due("FOOT 1, RAIN " + rain + ", HOUR " + hour, x.foot(1, 0), 60 - 2 * rains);
                due("FOOT 2, RAIN " + rain + ", HOUR " + hour, x.foot(2, 0), 60);
            }
        }
    }

    @Says(promise = 10, sentence = "HOUR is 1 more.")
    static void eachHourIsOneMore() {
        NightLevel x = at(FIRM);
        due("at first", x.count(3), 0);
        for (int hour = 1; hour <= 5; hour++) {
            x.hours(1);
            due("HOUR", x.count(3), hour);
        }
    }

    @Says(promise = 10, sentence = "HEIGHT is 0 to 99 always (cut at once)")
    static void noFootSinksBelowZero() {
        NightLevel x = at("n0,0,1;w9,9;w10,9;w8,9;d0,20;");
        x.hours(1);
        same("behind the first", heights(x), "0 1 0");
        x.hours(1);
        same("behind the second", heights(x), "0 0 0");
        x.jack(0, 1);
        due("lifted from 0", x.foot(0, 0), 1);
        due("sunk again", x.hours(24), 0);
    }

    // ---- 11

    @Says(promise = 11, sentence = "A DEED is DONE: AWRY then.")
    static void aDeedIsDone() {
        NightLevel x = at(FIVE);
        due("AWRY", x.perform(4), 6 + 1);
        due("it is DONE", x.deed(4, 2), 1);
        due("DONE", x.count(2), 1 << 4);
        due("the first", x.perform(0), 12 + 4);
        due("both", x.count(2), 1 << 4 | 1);
        due("ACTS", x.count(6), 2);
    }

    @Says(promise = 11, sentence = "BAD; STATE: it is.")
    static void noSuchDeedToDo() {
        refused(Probe::busy, BAD, x -> x.perform(-1), x -> x.perform(7), x -> x.perform(LEAST), x -> x.perform(MOST));
        refused(Probe::nowhere, BAD, x -> x.perform(0), x -> x.perform(-1));
        due("of one DEED the second", at(FIRM).perform(1), BAD);
        due("the last", at(SEVEN).perform(6) >= 0 ? 1 : 0, 1);
    }

    @Says(promise = 11, sentence = "STATE: it is.")
    static void aDeedThatIsDone() {
        refused(Probe::busy, STATE, x -> x.perform(1), x -> x.perform(3));
    }

    @Says(promise = 11, sentence = "Each is DONE once at most.")
    static void eachIsDoneOnce() {
        NightLevel x = at(SEVEN);
        for (int deed = 0; deed < 7; deed++) {
            x.perform(deed);
            for (int other = 0; other < 7; other++) due("DEED " + other, x.deed(other, 2), other <= deed ? 1 : 0);
            String before = night(x);
            due("again", x.perform(deed), STATE);
            same("nothing changes", night(x), before);
        }
        x.undo();
        due("undone, it can be DONE again", x.perform(6) >= 0 ? 1 : 0, 1);
    }

    @Says(promise = 11, sentence = "A DEED, DONE: driven lifts its FOOT by AMOUNT;")
    static void driven() {
        NightLevel x = one("d0,1", 10, 20, 30);
        x.perform(0);
        same("FOOT 0 by 1", heights(x), "11 20 30");
        same("SOFT", softs(x), "1 2 3");
        NightLevel y = one("d1,20", 10, 20, 30);
        y.perform(0);
        same("FOOT 1 by 20", heights(y), "10 40 30");
        NightLevel z = one("d2,20", 10, 20, 30);
        z.perform(0);
        same("FOOT 2 by 20", heights(z), "10 20 50");
    }

    @Says(promise = 11, sentence = "overshot by half of AMOUNT (cut), and 1 more;")
    static void overshot() {
        for (int amount = 1; amount <= 20; amount++) {
            NightLevel x = one("o1," + amount, 10, 20, 30);
            x.perform(0);
            same("by " + amount, heights(x), "10 " + (20 + amount / 2 + 1) + " 30");
            same("SOFT", softs(x), "1 2 3");
        }
        NightLevel least = one("o0,1", 0, 0, 0);
        least.perform(0);
        due("half of 1 is none", least.foot(0, 0), 1);
    }

    @Says(promise = 11, sentence = "sunk as driven, but SOFT of its FOOT is 1 more;")
    static void sunk() {
        for (int foot = 0; foot < 3; foot++) {
            NightLevel x = one("s" + foot + ",20", 10, 20, 30);
            x.perform(0);
            for (int other = 0; other < 3; other++) {
                due("HEIGHT", x.foot(other, 0), 10 + 10 * other + (other == foot ? 20 : 0));
                due("SOFT", x.foot(other, 1), 1 + other + (other == foot ? 1 : 0));
            }
        }
    }

    @Says(promise = 11, sentence = "wound lifts FOOT 2 by AMOUNT, if ALONG is below 0, else lowers it by that;")
    static void wound() {
        int[][] cases = {{29, 49}, {30, 10}, {31, 11}, {0, 20}, {60, 40}};
        for (int[] c : cases) {
            for (int foot = 0; foot < 3; foot++) {
                NightLevel x = one("u" + foot + ",20", 20, 40, c[0]);
                x.perform(0);
                same("ALONG " + (c[0] - 30), heights(x), "20 40 " + c[1]);
                same("SOFT", softs(x), "1 2 3");
            }
        }
        // MIDDLE of 20 and 41 is 30, cut: at 30 ALONG is 0.
        NightLevel cut = one("u2,1", 20, 41, 30);
        cut.perform(0);
        due("lowered", cut.foot(2, 0), 29);
    }

    @Says(promise = 11, sentence = "turned changes FEET 0 and 1 (HEIGHT, SOFT), and then does as wound, by half of AMOUNT (cut).")
    static void turned() {
        int[][] cases = {{29, 20, 39}, {30, 20, 20}, {29, 19, 38}, {31, 19, 22}, {29, 1, 29}, {31, 1, 31}, {29, 2, 30}, {30, 2, 29}};
        for (int[] c : cases) {
            NightLevel x = one("t2," + c[1], 20, 40, c[0]);
            x.perform(0);
            same("nose " + c[0] + " by " + c[1], heights(x), "40 20 " + c[2]);
            same("SOFT", softs(x), "2 1 3");
        }
    }

    @Says(promise = 11, sentence = "All that is divided is cut towards 0")
    static void halvesAreCut() {
        due("MIDDLE of 5 and 6", one("d0,1", 5, 6, 0).lean(2), 5);
        due("MIDDLE of 0 and 1", one("d0,1", 0, 1, 0).lean(2), 0);
        NightLevel x = one("o0,9", 0, 0, 0);
        x.perform(0);
        due("half of 9", x.foot(0, 0), 5);
        NightLevel y = one("t0,7", 9, 9, 8);
        y.perform(0);
        due("half of 7", y.foot(2, 0), 11);
    }

    @Says(promise = 11, sentence = "HEIGHT is 0 to 99 always (cut at once)")
    static void deedsKeepHeightWithinBounds() {
        NightLevel x = at("n0,0,1;w60,0;w60,0;w19,0;d0,20;s0,19;o0,20;u0,20;u0,20;");
        x.perform(0);
        x.perform(1);
        due("99", x.foot(0, 0), 99);
        x.perform(2);
        due("not above", x.foot(0, 0), 99);
        x.jack(2, 20);
        x.jack(2, 20);
        x.jack(2, 20);
        due("the nose", x.foot(2, 0), 79);
        // MIDDLE is (99 + 60) / 2 = 79: ALONG 0.
        x.perform(3);
        due("lowered", x.foot(2, 0), 59);
        x.perform(4);
        due("lifted", x.foot(2, 0), 79);
        NightLevel y = one("u0,20", 0, 0, 19);
        y.perform(0);
        due("not below 0", y.foot(2, 0), 0);
        NightLevel z = one("t0,20", 0, 0, 9);
        z.perform(0);
        due("not below 0", z.foot(2, 0), 0);
    }

    @Says(promise = 11, sentence = "SOFT 0 to 9.")
    static void softIsNineAtMost() {
        NightLevel x = at("n0,0,1;w60,8;w60,9;w60,0;s0,1;s0,1;s1,1;s2,1;");
        for (int deed = 0; deed < 4; deed++) x.perform(deed);
        same("SOFT", softs(x), "9 9 1");
        x.hours(1);
        same("they sink by it", heights(x), "53 52 60");
        for (int left = 9; left > 0; left--) due("a board", x.board(1), left - 1);
        due("no board more", x.board(1), STATE);
        due("0 at least", x.foot(1, 1), 0);
    }

    // ---- 12

    @Says(promise = 12, sentence = "A board: SOFT then.")
    static void aBoardIsLaid() {
        NightLevel x = at("n0,0,1;w50,9;w50,2;w50,1;d0,1;");
        due("FOOT 0", x.board(0), 8);
        due("FOOT 1", x.board(1), 1);
        due("FOOT 2", x.board(2), 0);
        same("SOFT", softs(x), "8 1 0");
        same("HEIGHT stays", heights(x), "50 50 50");
        due("ACTS", x.count(6), 3);
        x.hours(1);
        same("HEIGHT behind rain", heights(x), "42 49 50");
    }

    @Says(promise = 12, sentence = "BAD; STATE: no SITE (ahead of BAD), SOFT is 0.")
    static void aBoardToNoFoot() {
        refused(Probe::busy, BAD, x -> x.board(-1), x -> x.board(3), x -> x.board(LEAST), x -> x.board(MOST));
    }

    @Says(promise = 12, sentence = "STATE: no SITE (ahead of BAD), SOFT is 0.")
    static void aBoardWithoutASite() {
        refused(Probe::nowhere, STATE, x -> x.board(0), x -> x.board(-1), x -> x.board(3));
    }

    @Says(promise = 12, sentence = "SOFT is 0.")
    static void aBoardWhereSoftIsZero() {
        refused(Probe::busy, STATE, x -> x.board(0));
        refused(() -> at(FIRM), STATE, x -> x.board(0), x -> x.board(1), x -> x.board(2));
    }

    @Says(promise = 12, sentence = "---- what is done (FEET 0 to 2, else BAD).")
    static void boardJackFootOfNoFoot() {
        refused(Probe::busy, BAD, x -> x.board(-1), x -> x.board(3), x -> x.jack(-1, 1), x -> x.jack(3, 1),
            x -> x.foot(-1, 0), x -> x.foot(3, 0));
    }

    // ---- 13

    @Says(promise = 13, sentence = "AMOUNT (1 to 20): what it was.")
    static void anotherAmount() {
        NightLevel x = at(FIVE);
        int before = 9;
        for (int n = 1; n <= 20; n++) {
            due("what it was", x.amount(1, n), before);
            due("is", x.deed(1, 1), n);
            before = n;
        }
        due("the other stays", x.deed(0, 1), 6);
        due("the same again", x.amount(1, 20), 20);
        due("ACTS", x.count(6), 21);
        x.perform(1);
        due("it is DONE by it", x.foot(0, 0), 10 + 11);
    }

    @Says(promise = 13, sentence = "BAD; STATE: it is DONE.")
    static void noSuchAmount() {
        refused(Probe::busy, BAD, x -> x.amount(0, 0), x -> x.amount(0, 21), x -> x.amount(0, -1), x -> x.amount(0, LEAST),
            x -> x.amount(0, MOST), x -> x.amount(-1, 1), x -> x.amount(7, 1), x -> x.amount(LEAST, 1), x -> x.amount(MOST, 1));
        refused(Probe::nowhere, BAD, x -> x.amount(0, 1));
    }

    @Says(promise = 13, sentence = "STATE: it is DONE.")
    static void amountOfADeedThatIsDone() {
        refused(Probe::busy, STATE, x -> x.amount(1, 1), x -> x.amount(3, 12), x -> x.amount(3, 20));
    }

    @Says(promise = 13, sentence = "Refusals are answers, the first of these that fits, but as told")
    static void noSuchAmountIsAheadOfDone() {
        refused(Probe::busy, BAD, x -> x.amount(1, 0), x -> x.amount(1, 21), x -> x.amount(3, -1));
    }

    // ---- 14

    @Says(promise = 14, sentence = "Lifted by n (1 to 20): HEIGHT then.")
    static void aFootIsLifted() {
        for (int n = 1; n <= 20; n++) {
            for (int foot = 0; foot < 3; foot++) {
                NightLevel x = one("d0,1", 10, 20, 30);
                due("jack(" + foot + ", " + n + ")", x.jack(foot, n), 10 + 10 * foot + n);
                due("HEIGHT of all", x.count(5), 60 + n);
                same("SOFT stays", softs(x), "1 2 3");
                due("ACTS", x.count(6), 1);
            }
        }
    }

    @Says(promise = 14, sentence = "BAD; STATE: no SITE (ahead of BAD).")
    static void noSuchLift() {
        refused(Probe::busy, BAD, x -> x.jack(0, 0), x -> x.jack(0, 21), x -> x.jack(0, -1), x -> x.jack(0, LEAST),
            x -> x.jack(0, MOST), x -> x.jack(-1, 1), x -> x.jack(3, 1), x -> x.jack(LEAST, 1), x -> x.jack(MOST, 1));
    }

    @Says(promise = 14, sentence = "STATE: no SITE (ahead of BAD).")
    static void liftWithoutASite() {
        refused(Probe::nowhere, STATE, x -> x.jack(0, 1), x -> x.jack(3, 1), x -> x.jack(0, 0), x -> x.jack(0, 21));
    }

    @Says(promise = 14, sentence = "HEIGHT is 0 to 99 always (cut at once)")
    static void noFootIsLiftedAboveNinetyNine() {
        NightLevel x = at("n0,0,1;w60,1;w60,0;w60,0;d0,1;");
        due("80", x.jack(0, 20), 80);
        due("99", x.jack(0, 19), 99);
        due("99 yet", x.jack(0, 1), 99);
        due("99 yet", x.jack(0, 20), 99);
        x.hours(1);
        due("cut at once, not later", x.foot(0, 0), 98);
    }

    // ---- 15

    @Says(promise = 15, sentence = "Of a FOOT: 0 HEIGHT, 1 SOFT.")
    static void heightAndSoftOfAFoot() {
        NightLevel x = at("n0,0,1;w60,0;w0,9;w31,5;d0,1;");
        same("HEIGHT", heights(x), "60 0 31");
        same("SOFT", softs(x), "0 9 5");
    }

    @Says(promise = 15, sentence = "BAD; STATE: no SITE (ahead of BAD).")
    static void noSuchFootOrWhat() {
        refused(Probe::busy, BAD, x -> x.foot(-1, 0), x -> x.foot(3, 0), x -> x.foot(3, 1), x -> x.foot(0, -1), x -> x.foot(0, 2),
            x -> x.foot(LEAST, 0), x -> x.foot(MOST, 0), x -> x.foot(0, LEAST), x -> x.foot(0, MOST));
    }

    @Says(promise = 15, sentence = "STATE: no SITE (ahead of BAD).")
    static void footWithoutASite() {
        refused(Probe::nowhere, STATE, x -> x.foot(0, 0), x -> x.foot(2, 1), x -> x.foot(3, 0), x -> x.foot(0, 2));
    }

    // ---- 16

    @Says(promise = 16, sentence = "Of a DEED: 0 FOOT, 1 AMOUNT, 2 whether DONE (1, 0).")
    static void whatADeedIs() {
        NightLevel x = at("n0,0,1;w5,0;w5,0;w5,0;d2,20;u0,1;o1,13;");
        int[][] told = {{2, 20}, {0, 1}, {1, 13}};
        x.perform(2);
        for (int deed = 0; deed < 3; deed++) {
            due("FOOT", x.deed(deed, 0), told[deed][0]);
            due("AMOUNT", x.deed(deed, 1), told[deed][1]);
            due("whether DONE", x.deed(deed, 2), deed == 2 ? 1 : 0);
        }
        x.undo();
        due("undone", x.deed(2, 2), 0);
    }

    @Says(promise = 16, sentence = "BAD.")
    static void noSuchDeedOrWhat() {
        refused(Probe::busy, BAD, x -> x.deed(-1, 0), x -> x.deed(7, 0), x -> x.deed(LEAST, 1), x -> x.deed(MOST, 2),
            x -> x.deed(0, -1), x -> x.deed(0, 3), x -> x.deed(0, LEAST), x -> x.deed(0, MOST));
        refused(Probe::nowhere, BAD, x -> x.deed(0, 0), x -> x.deed(0, 3));
    }

    @Says(promise = 16, sentence = "BAD (a number is not as told; there is no such thing)")
    static void aDeedOfTheSiteBeforeIsNone() {
        NightLevel x = at(SEVEN);
        due("DEED 6", x.deed(6, 0), 0);
        told(x, FIRM);
        for (int deed = 1; deed < 8; deed++) due("DEED " + deed, x.deed(deed, 0), BAD);
    }

    // ---- 17

    @Says(promise = 17, sentence = "0 SIDE, 1 ALONG (both 1000 more), 2 MIDDLE, 3 AWRY, 4 whether LEVEL (1, 0), 5 DEEDS that are DONE (bits).")
    static void whatLeans() {
        NightLevel x = at("n6,4,3;w10,1;w17,0;w9,2;d0,6;o0,9;d1,1;");
        int[] all = {1000 - 7, 1000 - 4, 13, 11, 0, 0};
        for (int what = 0; what < 6; what++) due("lean(" + what + ")", x.lean(what), all[what]);
        x.perform(0);
        x.perform(2);
        // 16, 18, 9: SIDE -2, MIDDLE 17, ALONG -8.
        int[] then = {998, 992, 17, 10, 0, 5};
        for (int what = 0; what < 6; what++) due("lean(" + what + ")", x.lean(what), then[what]);
        x.jack(2, 4);
        due("LEVEL", x.lean(4), 1);
    }

    @Says(promise = 17, sentence = "BAD; STATE: no SITE (ahead of BAD).")
    static void noSuchLean() {
        refused(Probe::busy, BAD, x -> x.lean(-1), x -> x.lean(6), x -> x.lean(LEAST), x -> x.lean(MOST));
    }

    @Says(promise = 17, sentence = "STATE: no SITE (ahead of BAD).")
    static void leanWithoutASite() {
        refused(Probe::nowhere, STATE, x -> x.lean(0), x -> x.lean(5), x -> x.lean(-1), x -> x.lean(6));
    }

    @Says(promise = 17, sentence = "SIDE is HEIGHT of FOOT 0 less that of FOOT 1;")
    static void sideBothWays() {
        due("the most", one("d0,1", 60, 0, 30).lean(0), 1060);
        due("the least", one("d0,1", 0, 60, 30).lean(0), 940);
        due("none", one("d0,1", 60, 60, 0).lean(0), 1000);
        NightLevel x = one("d0,1", 60, 0, 0);
        x.jack(0, 20);
        x.jack(0, 20);
        due("99", x.lean(0), 1099);
    }

    @Says(promise = 17, sentence = "MIDDLE half of both together (cut);")
    static void middleIsCut() {
        due("0 and 0", one("d0,1", 0, 0, 60).lean(2), 0);
        due("0 and 1", one("d0,1", 0, 1, 60).lean(2), 0);
        due("1 and 0", one("d0,1", 1, 0, 60).lean(2), 0);
        due("1 and 1", one("d0,1", 1, 1, 60).lean(2), 1);
        due("59 and 60", one("d0,1", 59, 60, 0).lean(2), 59);
        due("60 and 60", one("d0,1", 60, 60, 0).lean(2), 60);
    }

    @Says(promise = 17, sentence = "ALONG is HEIGHT of FOOT 2 less MIDDLE.")
    static void alongBothWays() {
        due("the nose high", one("d0,1", 0, 1, 60).lean(1), 1060);
        due("the nose low", one("d0,1", 59, 60, 0).lean(1), 1000 - 59);
        due("none", one("d0,1", 10, 21, 15).lean(1), 1000);
    }

    @Says(promise = 17, sentence = "It is LEVEL, if SIDE is off 0 by EGG at most, ALONG by BED at most;")
    static void levelAtItsEdges() {
        // SIDE of these is -4 to 4; the nose stands at MIDDLE.
        for (int side = -4; side <= 4; side++) {
            int left = 20 + side;
            String feet = "w" + left + ",0;w20,0;w" + (left + 20) / 2 + ",0;d0,1;";
            due("SIDE " + side + ", EGG 3", at("n3,0,1;" + feet).lean(4), Math.abs(side) <= 3 ? 1 : 0);
            due("SIDE " + side + ", EGG 0", at("n0,0,1;" + feet).lean(4), side == 0 ? 1 : 0);
        }
        for (int along = -4; along <= 4; along++) {
            String feet = "w20,0;w20,0;w" + (20 + along) + ",0;d0,1;";
            due("ALONG " + along + ", BED 3", at("n0,3,1;" + feet).lean(4), Math.abs(along) <= 3 ? 1 : 0);
            due("ALONG " + along + ", BED 0", at("n0,0,1;" + feet).lean(4), along == 0 ? 1 : 0);
        }
        due("EGG is not for ALONG", at("n9,0,1;w20,0;w20,0;w21,0;d0,1;").lean(4), 0);
        due("BED is not for SIDE", at("n0,9,1;w21,0;w20,0;w20,0;d0,1;").lean(4), 0);
    }

    @Says(promise = 17, sentence = "AWRY is by how much both are off 0, together.")
    static void awryOfBothSigns() {
        due("SIDE 10, ALONG 5", one("d0,1", 30, 20, 30).lean(3), 15);
        due("SIDE -10, ALONG 5", one("d0,1", 20, 30, 30).lean(3), 15);
        due("SIDE 10, ALONG -5", one("d0,1", 30, 20, 20).lean(3), 15);
        due("SIDE -10, ALONG -5", one("d0,1", 20, 30, 20).lean(3), 15);
        due("none", one("d0,1", 20, 20, 20).lean(3), 0);
        due("the most told", one("d0,1", 60, 0, 0).lean(3), 90);
    }

    @Says(promise = 17, sentence = "Sets are bits.")
    static void setsAreBits() {
        NightLevel x = at("n0,0,1;w5,0;w5,0;w5,0;d0,1;d0,1;d0,1;d0,1;d0,1;d0,1;d0,1;");
        int done = 0;
        for (int deed : new int[] {6, 0, 3, 1, 2, 5, 4}) {
            x.perform(deed);
            done |= 1 << deed;
            due("lean(5)", x.lean(5), done);
            due("count(2)", x.count(2), done);
        }
        due("all seven", done, 127);
    }

    @Says(promise = 17, sentence = "What is refused, or found, changes nothing but status().")
    static void manyRefusalsChangeNothing() {
        refused(Probe::busy, BAD, x -> x.hours(25), x -> x.perform(7), x -> x.board(3), x -> x.amount(0, 21), x -> x.jack(0, 21),
            x -> x.image(2), x -> x.restore(2), x -> x.row(0, 3, 1), x -> x.feed(256), x -> x.drop(8), x -> x.ask(0, 2),
            x -> x.ask(7, 0), x -> x.as(0, 6), x -> x.set(8, 0, 1), x -> x.copy(0, 0, 8, 0, 1), x -> x.count(8));
        refused(Probe::busy, STATE, x -> x.perform(1), x -> x.board(0), x -> x.amount(3, 1), x -> x.attempt(1));
    }
}
