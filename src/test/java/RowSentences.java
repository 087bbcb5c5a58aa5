/** Promises 1 to 5, and what the Terms say of refusals and of ROWS. */
final class RowSentences extends Probe {

    // ---- 1

    @Says(promise = 1, sentence = "No SITE.")
    static void aNewObjectHasNoSite() {
        NightLevel x = nowhere();
        due("lean", x.lean(0), STATE);
        due("foot", x.foot(0, 0), STATE);
        due("hours", x.hours(1), STATE);
        due("image", x.image(0), STATE);
        due("deed", x.deed(0, 0), BAD);
        due("kind", x.kind(0), BAD);
        for (int what = 1; what <= 5; what++) due("count(" + what + ")", x.count(what), 0);
    }

    @Says(promise = 1, sentence = "An object is used for at most 512 calls after it has been made; what later calls answer is free.")
    static void theFiveHundredTwelfthCallIsAnswered() {
        NightLevel x = at(FIRM);
        int calls = FIRM.length() + 1;
        for (int turn = 1; calls + 3 <= 509; turn++, calls += 3) {
            due("jack", x.jack(0, 1), 6);
            due("undo", x.undo(), 0);
            due("foot", x.foot(0, 0), 5);
        }
        for (; calls < 509; calls++) due("lasts", x.lasts(), 61);
        due("the 510th", x.perform(0), 1);
        due("the 511th", x.undo(), 0);
        due("the 512th", x.count(4), 0);
    }

    @Says(promise = 1, sentence = "Numbers go from 0 on.")
    static void numbersGoFromZeroOn() {
        NightLevel x = at("n0,0,1;w11,1;w22,2;w33,3;d1,7;u2,8;");
        due("the first FOOT", x.foot(0, 0), 11);
        due("the last FOOT", x.foot(2, 0), 33);
        due("the first DEED", x.deed(0, 1), 7);
        due("the last DEED", x.deed(1, 1), 8);
        due("the first ROW", x.row(0, 0, 1), 1);
        due("its first ITEM", x.set(0, 0, 5), 5);
        due("the first place of the tape", x.site(), -1000100);
    }

    @Says(promise = 1, sentence = "ROWS 0 .. 7 are missing (at first)")
    static void allRowsAreMissingAtFirst() {
        NightLevel x = nowhere();
        for (int row = 0; row < 8; row++) due("drop(" + row + ")", x.drop(row), NULL);
        due("count(0)", x.count(0), 0);
        for (int row = 0; row < 8; row++) due("row(" + row + ")", x.row(row, 0, row), row);
        due("count(0)", x.count(0), 8);
    }

    // ---- 2

    @Says(promise = 2, sentence = "A ROW of a LANE with n ITEMS")
    static void aRowHasAsManyItems() {
        for (int n = 0; n <= 40; n++) {
            NightLevel x = nowhere();
            due("row of " + n, x.row(3, 2, n), n);
            due("the place behind its last", x.set(3, n, 1), PLACE);
            if (n > 0) due("its last place", x.set(3, n - 1, 1), 1);
            due("drop", x.drop(3), n);
        }
    }

    @Says(promise = 2, sentence = "and 0 to 40 ITEMS")
    static void anEmptyRowIsThere() {
        NightLevel x = nowhere();
        due("empty", x.row(0, 0, 0), 0);
        due("it is there", x.count(0), 1);
        due("it has no place", x.set(0, 0, 0), PLACE);
        due("40", x.row(7, 2, 40), 40);
        due("place 39", x.set(7, 39, 6), 6);
        due("place 40", x.set(7, 40, 6), PLACE);
    }

    @Says(promise = 2, sentence = "ITEMS, 0 at first")
    static void itemsAreZeroAtFirst() {
        NightLevel x = at("n0,0,1;w5,0;w5,0;w5,0;d2,1;");
        x.row(0, 0, 40);
        // The DEED lifts the nose: SIDE stays 0, by every AMOUNT.
        for (int i = 0; i < 40; i++) due("ITEM " + i, x.amounts(0, 0, 0, i, 1), (1 << 21) - 2);
    }

    @Says(promise = 2, sentence = "in place of what is there: n.")
    static void aRowMadeAnewHoldsNothingOfTheOldOne() {
        NightLevel x = at("n0,0,1;w5,0;w5,0;w5,0;d2,1;");
        x.row(0, 0, 3);
        for (int i = 0; i < 3; i++) x.set(0, i, 9);
        due("fewer", x.row(0, 2, 1), 1);
        due("its place 1 is gone", x.set(0, 1, 9), PLACE);
        due("of its own LANE", x.set(0, 0, 70000), 70000);
        due("more", x.row(0, 1, 4), 4);
        due("of its own LANE", x.set(0, 3, 70000), 70000 - 65536);
        for (int i = 0; i < 3; i++) due("ITEM " + i + " is 0", x.amounts(0, 0, 0, i, 1), (1 << 21) - 2);
        due("one ROW yet", x.count(0), 1);
        due("as many again", x.row(0, 1, 4), 4);
        due("ITEM 3 is 0", x.amounts(0, 0, 0, 3, 1), (1 << 21) - 2);
        due("behind a drop", x.drop(0) + x.row(0, 1, 4), 8);
        due("none", x.row(0, 1, 0), 0);
        due("drop", x.drop(0), 0);
    }

    @Says(promise = 2, sentence = "BAD: ROW")
    static void noRowBeyondTheEight() {
        refused(Probe::busy, BAD, x -> x.row(-1, 0, 1), x -> x.row(8, 0, 1), x -> x.row(LEAST, 0, 1), x -> x.row(MOST, 0, 1));
        due("ROW 0", nowhere().row(0, 0, 1), 1);
        due("ROW 7", nowhere().row(7, 0, 1), 1);
    }

    @Says(promise = 2, sentence = "BAD: ROW, LANE")
    static void noLaneBeyondTheThree() {
        refused(Probe::busy, BAD, x -> x.row(0, -1, 1), x -> x.row(0, 3, 1), x -> x.row(0, LEAST, 1), x -> x.row(0, MOST, 1));
        for (int lane = 0; lane < 3; lane++) due("LANE " + lane, nowhere().row(0, lane, 1), 1);
    }

    @Says(promise = 2, sentence = "n above 40")
    static void noMoreThanFortyItems() {
        refused(Probe::busy, BAD, x -> x.row(0, 0, 41), x -> x.row(4, 0, MOST));
        due("40", nowhere().row(0, 0, 40), 40);
    }

    @Says(promise = 2, sentence = "n above 40; SIZE")
    static void fewerItemsThanNone() {
        found(Probe::busy, SIZE, x -> x.row(0, 0, -1), x -> x.row(4, 2, LEAST), x -> x.row(3, 1, -40));
        due("0", nowhere().row(0, 0, 0), 0);
    }

    @Says(promise = 2, sentence = "4 SIZE (fewer than none)")
    static void sizeIsFindingFour() {
        NightLevel x = nowhere();
        due("row", x.row(0, 0, -1), -1000014);
        due("status", x.status(), 4);
    }

    @Says(promise = 2, sentence = "Refusals are answers, the first of these that fits, but as told")
    static void badRowIsAheadOfSize() {
        refused(Probe::busy, BAD, x -> x.row(8, 0, -1), x -> x.row(-1, 0, -1), x -> x.row(0, 3, -1), x -> x.row(0, -1, -1));
    }

    // ---- 3

    @Says(promise = 3, sentence = "ITEM i becomes v")
    static void oneItemBecomesWhatIsSet() {
        NightLevel x = at(FIRM);
        x.row(0, 0, 40);
        for (int i = 0; i < 40; i++) x.set(0, i, 20 - i % 20);
        due("the first", x.set(0, 0, 3), 3);
        due("the last", x.set(0, 39, 4), 4);
        due("the first", item(x, 0, 0), 3);
        due("the last", item(x, 0, 39), 4);
        for (int i = 1; i < 39; i++) due("ITEM " + i + " stays", item(x, 0, i), 20 - i % 20);
    }

    @Says(promise = 3, sentence = "its lowest bits, as many as the LANE has: what it is then.")
    static void anItemIsWhatItsLaneHolds() {
        NightLevel x = at(FIRM);
        x.row(0, 0, 1);
        int[][] bytes = {{127, 127}, {128, -128}, {255, -1}, {256, 0}, {-128, -128}, {-129, 127}, {MOST, -1}, {LEAST, 0}};
        for (int[] b : bytes) due("byte " + b[0], x.set(0, 0, b[0]), b[1]);
        x.set(0, 0, 256 + 13);
        due("as a byte it is kept", item(x, 0, 0), 13);
        x.row(1, 1, 1);
        int[][] shorts = {{32767, 32767}, {32768, -32768}, {65535, -1}, {65536, 0}, {-32768, -32768}, {-32769, 32767},
            {MOST, -1}, {LEAST, 0}};
        for (int[] s : shorts) due("short " + s[0], x.set(1, 0, s[0]), s[1]);
        x.set(1, 0, 65536 + 14);
        due("as a short it is kept", item(x, 1, 0), 14);
        x.row(2, 2, 1);
        for (int v : new int[] {MOST, LEAST, 65536, -65536, 0}) due("int " + v, x.set(2, 0, v), v);
    }

    @Says(promise = 3, sentence = "or have a LANE (0 bytes, 1 shorts, 2 ints)")
    static void lanesByTheirNumbers() {
        int[] kept = {(byte) 70000, (short) 70000, 70000};
        for (int lane = 0; lane < 3; lane++) {
            NightLevel x = nowhere();
            x.row(0, lane, 1);
            due("LANE " + lane, x.set(0, 0, 70000), kept[lane]);
        }
    }

    @Says(promise = 3, sentence = "BAD: ROW; NULL; PLACE.")
    static void setInNoRowBeyondTheEight() {
        refused(Probe::busy, BAD, x -> x.set(-1, 0, 1), x -> x.set(8, 0, 1), x -> x.set(LEAST, 0, 1), x -> x.set(MOST, 0, 1));
    }

    @Says(promise = 3, sentence = "NULL; PLACE.")
    static void setInAMissingRow() {
        found(Probe::busy, NULL, x -> x.set(4, 0, 1), x -> x.set(7, 0, 1));
        NightLevel x = nowhere();
        x.row(0, 0, 1);
        x.drop(0);
        due("behind a drop", x.set(0, 0, 1), NULL);
    }

    @Says(promise = 3, sentence = "PLACE.")
    static void setAtNoPlace() {
        found(Probe::busy, PLACE, x -> x.set(0, -1, 1), x -> x.set(0, 4, 1), x -> x.set(0, LEAST, 1), x -> x.set(0, MOST, 1),
            x -> x.set(3, 0, 1), x -> x.set(1, 3, 1), x -> x.set(2, 2, 1));
    }

    @Says(promise = 3, sentence = "2 PLACE (no such place of a ROW)")
    static void placeIsFindingTwo() {
        NightLevel x = nowhere();
        x.row(0, 0, 1);
        due("set", x.set(0, 1, 0), -1000012);
        due("status", x.status(), 2);
    }

    @Says(promise = 3, sentence = "Refusals are answers, the first of these that fits, but as told")
    static void missingRowIsAheadOfPlace() {
        refused(Probe::busy, BAD, x -> x.set(8, -1, 1));
        found(Probe::busy, NULL, x -> x.set(4, -1, 1), x -> x.set(4, 40, 1));
    }

    // ---- 4

    private static NightLevel sixAndThree() {
        NightLevel x = at(FIRM);
        x.row(0, 0, 6);
        for (int i = 0; i < 6; i++) x.set(0, i, i + 1);
        x.row(1, 0, 3);
        for (int i = 0; i < 3; i++) x.set(1, i, i + 11);
        return x;
    }

    private static String items(NightLevel x, int row, int n) {
        StringBuilder s = new StringBuilder();
        for (int i = 0; i < n; i++) s.append(item(x, row, i)).append(' ');
        return s.toString().trim();
    }

    @Says(promise = 4, sentence = "n ITEMS of a from i on come to b from j on")
    static void itemsComeToAnotherRow() {
        NightLevel x = sixAndThree();
        due("two", x.copy(0, 4, 1, 1, 2), 2);
        same("b", items(x, 1, 3), "11 5 6");
        same("a stays", items(x, 0, 6), "1 2 3 4 5 6");
        due("all", x.copy(1, 0, 0, 3, 3), 3);
        same("a", items(x, 0, 6), "1 2 3 11 5 6");
        NightLevel y = at(FIRM);
        for (int lane = 0; lane < 3; lane++) {
            y.row(0, lane, 40);
            y.row(1, lane, 40);
            y.set(0, 0, 8);
            y.set(0, 39, 9);
            due("40 of 40", y.copy(0, 0, 1, 0, 40), 40);
            due("the first", item(y, 1, 0), 8);
            due("the last", item(y, 1, 39), 9);
        }
    }

    @Says(promise = 4, sentence = "as they were ahead: n.")
    static void itemsComeToTheirOwnRow() {
        NightLevel x = sixAndThree();
        due("behind themselves", x.copy(0, 0, 0, 1, 5), 5);
        same("a", items(x, 0, 6), "1 1 2 3 4 5");
        due("ahead of themselves", x.copy(0, 1, 0, 0, 5), 5);
        same("a", items(x, 0, 6), "1 2 3 4 5 5");
        due("upon themselves", x.copy(0, 0, 0, 0, 6), 6);
        same("a", items(x, 0, 6), "1 2 3 4 5 5");
    }

    @Says(promise = 4, sentence = "ahead: n.")
    static void noItemsCome() {
        NightLevel x = sixAndThree();
        x.row(2, 0, 0);
        due("none at the starts", x.copy(0, 0, 1, 0, 0), 0);
        due("none at both ends", x.copy(0, 6, 1, 3, 0), 0);
        due("none of an empty one", x.copy(2, 0, 1, 3, 0), 0);
        due("none to an empty one", x.copy(0, 6, 2, 0, 0), 0);
        due("status", x.status(), 0);
        same("b stays", items(x, 1, 3), "11 12 13");
    }

    @Says(promise = 4, sentence = "BAD: ROWS")
    static void copyWithNoRowBeyondTheEight() {
        refused(Probe::busy, BAD, x -> x.copy(-1, 0, 0, 0, 1), x -> x.copy(8, 0, 0, 0, 1), x -> x.copy(0, 0, -1, 0, 1),
            x -> x.copy(0, 0, 8, 0, 1), x -> x.copy(LEAST, 0, MOST, 0, 1), x -> x.copy(MOST, 0, LEAST, 0, 1));
    }

    @Says(promise = 4, sentence = "NULL; STORE")
    static void copyWithAMissingRow() {
        found(Probe::busy, NULL, x -> x.copy(4, 0, 0, 0, 1), x -> x.copy(0, 0, 4, 0, 1), x -> x.copy(4, 0, 5, 0, 1),
            x -> x.copy(4, 0, 4, 0, 0));
    }

    @Says(promise = 4, sentence = "1 NULL (a ROW that is missing)")
    static void nullIsFindingOne() {
        NightLevel x = nowhere();
        due("copy", x.copy(0, 0, 0, 0, 0), -1000011);
        due("status", x.status(), 1);
    }

    @Says(promise = 4, sentence = "STORE; PLACE")
    static void copyBetweenTwoLanes() {
        found(Probe::busy, STORE, x -> x.copy(0, 0, 1, 0, 1), x -> x.copy(1, 0, 0, 0, 1), x -> x.copy(0, 0, 2, 0, 1),
            x -> x.copy(2, 0, 0, 0, 1), x -> x.copy(1, 0, 2, 0, 1), x -> x.copy(2, 0, 1, 0, 1), x -> x.copy(0, 0, 3, 0, 0));
    }

    @Says(promise = 4, sentence = "5 STORE (ROWS of two LANES)")
    static void storeIsFindingFive() {
        NightLevel x = nowhere();
        x.row(0, 0, 1);
        x.row(1, 1, 1);
        due("copy", x.copy(0, 0, 1, 0, 1), -1000015);
        due("status", x.status(), 5);
        x.row(1, 0, 1);
        due("of one LANE then", x.copy(0, 0, 1, 0, 1), 1);
    }

    private static NightLevel busyOfOneLane() {
        NightLevel x = busy();
        x.row(4, 0, 3);
        x.set(4, 0, 17);
        x.set(4, 2, 18);
        return x;
    }

    @Says(promise = 4, sentence = "PLACE (i, j, n below 0, or beyond an end)")
    static void copyBelowZero() {
        found(RowSentences::busyOfOneLane, PLACE, x -> x.copy(0, -1, 4, 0, 1), x -> x.copy(0, 0, 4, -1, 1),
            x -> x.copy(0, 1, 4, 1, -1), x -> x.copy(0, -1, 4, 0, 0), x -> x.copy(0, 0, 4, -1, 0),
            x -> x.copy(0, LEAST, 4, 0, 1), x -> x.copy(0, 0, 4, LEAST, 1), x -> x.copy(0, 4, 4, 3, LEAST));
    }

    @Says(promise = 4, sentence = "or beyond an end")
    static void copyBeyondAnEnd() {
        found(RowSentences::busyOfOneLane, PLACE, x -> x.copy(0, 0, 4, 0, 4), x -> x.copy(4, 0, 0, 0, 4),
            x -> x.copy(0, 2, 4, 0, 3), x -> x.copy(0, 0, 4, 1, 3), x -> x.copy(0, 5, 4, 0, 0), x -> x.copy(0, 0, 4, 4, 0),
            x -> x.copy(0, 1, 4, 1, MOST), x -> x.copy(0, MOST, 4, 0, 1), x -> x.copy(0, 0, 4, MOST, 1),
            x -> x.copy(0, MOST, 4, MOST, MOST), x -> x.copy(0, MOST, 4, 0, 0));
    }

    @Says(promise = 4, sentence = "then FINDINGS, of several the first in time")
    static void copyFindsTheFirstInTime() {
        refused(Probe::busy, BAD, x -> x.copy(4, -1, 8, 0, -1), x -> x.copy(8, -1, 4, 0, -1));
        found(Probe::busy, NULL, x -> x.copy(4, -1, 0, 0, -1), x -> x.copy(0, -1, 4, 0, -1));
        found(Probe::busy, STORE, x -> x.copy(0, -1, 1, 0, 1), x -> x.copy(0, 0, 1, 9, 1), x -> x.copy(0, 0, 1, 0, -1));
    }

    // ---- 5

    @Says(promise = 5, sentence = "A ROW is missing from now on: how many ITEMS it had.")
    static void aDroppedRowIsMissing() {
        NightLevel x = nowhere();
        x.row(0, 0, 0);
        x.row(7, 2, 40);
        x.row(3, 1, 17);
        due("17", x.drop(3), 17);
        due("count", x.count(0), 2);
        due("set", x.set(3, 0, 0), NULL);
        due("an empty one", x.drop(0), 0);
        due("a full one", x.drop(7), 40);
        due("count", x.count(0), 0);
        due("status", x.row(1, 0, 0) + x.drop(1) + x.status(), 0);
    }

    @Says(promise = 5, sentence = "BAD; NULL.")
    static void dropNoRowBeyondTheEight() {
        refused(Probe::busy, BAD, x -> x.drop(-1), x -> x.drop(8), x -> x.drop(LEAST), x -> x.drop(MOST));
    }

    @Says(promise = 5, sentence = "NULL.")
    static void dropAMissingRow() {
        found(Probe::busy, NULL, x -> x.drop(4), x -> x.drop(7));
        NightLevel x = nowhere();
        x.row(2, 0, 2);
        due("it is there", x.drop(2), 2);
        due("no more", x.drop(2), NULL);
    }
}
