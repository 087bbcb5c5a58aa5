/** Promises 35 to 40: kinds, asks with their trace, counts, and the status. */
final class AskedSentences extends Probe {

    // ---- 35

    @Says(promise = 35, sentence = "The KIND of a DEED, as told (1 to 5).")
    static void kindsAsTold() {
        NightLevel x = at(FIVE);
        for (int one = 0; one < 5; one++) due("kind(" + one + ")", x.kind(one), one + 1);
        x.perform(4);
        x.amount(0, 20);
        for (int one = 0; one < 5; one++) due("kind(" + one + ")", x.kind(one), one + 1);
        due("the last of seven", at(SEVEN).kind(6), 2);
    }

    @Says(promise = 35, sentence = "BAD.")
    static void noSuchDeedsKind() {
        refused(Probe::busy, BAD, x -> x.kind(-1), x -> x.kind(7), x -> x.kind(LEAST), x -> x.kind(MOST));
        refused(Probe::nowhere, BAD, x -> x.kind(0));
        due("behind the last", at(FIVE).kind(5), BAD);
    }

    // ---- 36

    @Says(promise = 36, sentence = "A DEED is taken as one of a KIND (0 .. 5): its number.")
    static void aDeedIsTakenAsOneOfAKind() {
        NightLevel x = at(FIVE);
        for (int one = 0; one < 5; one++) {
            due(one + " as a DEED", x.as(one, 0), one);
            due(one + " as what it is", x.as(one, one + 1), one);
        }
        due("OVERSHOT as DRIVEN", x.as(1, 1), 1);
        due("SUNK as DRIVEN", x.as(2, 1), 2);
        due("TURNED as WOUND", x.as(4, 4), 4);
        due("status", x.status(), 0);
        x.perform(0);
        due("DONE, too", x.as(0, 1), 0);
    }

    @Says(promise = 36, sentence = "KINDS of DEEDS: 0 DEED; 1 DRIVEN, a DEED; 2 OVERSHOT, a DRIVEN; 3 SUNK, a DRIVEN; 4 WOUND, a DEED; 5 TURNED, a WOUND.")
    static void whichKindIsWhich() {
        String[] are = {"01", "012", "013", "04", "045"};
        NightLevel x = at(FIVE);
        for (int one = 0; one < 5; one++) {
            for (int kind = 0; kind < 6; kind++) {
                due(one + " as " + kind, x.as(one, kind), are[one].indexOf('0' + kind) >= 0 ? one : KIND);
            }
        }
    }

    @Says(promise = 36, sentence = "BAD; KIND: it is no such one.")
    static void noSuchDeedOrKind() {
        refused(Probe::busy, BAD, x -> x.as(-1, 0), x -> x.as(7, 0), x -> x.as(LEAST, 0), x -> x.as(MOST, 0), x -> x.as(0, -1),
            x -> x.as(0, 6), x -> x.as(0, LEAST), x -> x.as(0, MOST));
        refused(Probe::nowhere, BAD, x -> x.as(0, 0), x -> x.as(0, 1));
    }

    @Says(promise = 36, sentence = "KIND: it is no such one.")
    static void aDeedThatIsNotThat() {
        // s o u d t d o
        found(Probe::busy, KIND, x -> x.as(0, 2), x -> x.as(1, 3), x -> x.as(2, 5), x -> x.as(3, 2), x -> x.as(4, 1), x -> x.as(0, 4),
            x -> x.as(6, 5));
    }

    @Says(promise = 36, sentence = "-1000010 less 1 NULL (a ROW that is missing), 2 PLACE (no such place of a ROW), 3 KIND (a DEED that is not that), 4 SIZE (fewer than none), 5 STORE (ROWS of two LANES).")
    static void kindIsFindingThree() {
        NightLevel x = at(FIVE);
        due("as", x.as(0, 2), -1000013);
        due("status", x.status(), 3);
    }

    // ---- 37

    private static void asked(NightLevel x, int one, int what, int answer, int... bodies) {
        due("ask(" + one + ", " + what + ")", x.ask(one, what), answer);
        for (int i = 0; i < bodies.length; i++) due("trace(" + i + ")", x.trace(i), bodies[i]);
        due("trace(" + bodies.length + ")", x.trace(bodies.length), NONE);
    }

    @Says(promise = 37, sentence = "An ASK (0, 1) of a DEED.")
    static void sizeAndMark() {
        NightLevel x = at(FIVE);
        asked(x, 0, 0, 6 + 0 + 10, 11, 10, 21, 20);
        asked(x, 0, 1, 0 + 10, 21, 20);
        x.jack(0, 20);
        x.amount(0, 1);
        asked(x, 0, 0, 1 + 0 + 30, 11, 10, 21, 20);
        x.perform(0);
        asked(x, 0, 0, 1 + 0 + 31, 11, 10, 21, 20);
    }

    @Says(promise = 37, sentence = "BAD. THE TRACE")
    static void noSuchAsk() {
        refused(Probe::busy, BAD, x -> x.ask(-1, 0), x -> x.ask(7, 0), x -> x.ask(LEAST, 1), x -> x.ask(MOST, 1), x -> x.ask(0, -1),
            x -> x.ask(0, 2), x -> x.ask(0, LEAST), x -> x.ask(0, MOST));
        refused(Probe::nowhere, BAD, x -> x.ask(0, 0), x -> x.ask(0, 1));
    }

    @Says(promise = 37, sentence = "THE TRACE is empty ahead of it.")
    static void theTraceIsEmptyAheadOfAnAsk() {
        NightLevel x = at(FIVE);
        x.ask(1, 0);
        due("six BODIES", x.trace(5), 20);
        asked(x, 3, 0, 5 - 100, 13, 10);
        for (int i = 2; i < 16; i++) due("trace(" + i + ")", x.trace(i), NONE);
        asked(x, 3, 0, 5 - 100, 13, 10);
    }

    @Says(promise = 37, sentence = "0 SIZE: 10 lent to all DEEDS: AMOUNT. 11 of DRIVEN ones: what 10 gives, and MARK.")
    static void sizeOfDrivenOnes() {
        NightLevel x = at("n0,0,1;w7,0;w8,0;w9,0;d2,20;d1,1;");
        asked(x, 0, 0, 20 + 0 + 9, 11, 10, 21, 20);
        asked(x, 1, 0, 1 + 1 + 8, 11, 10, 21, 20);
    }

    @Says(promise = 37, sentence = "12 of OVERSHOT ones: 0 less what 11 gives.")
    static void sizeOfOvershotOnes() {
        asked(at(FIVE), 1, 0, -(9 + 2 * (1 + 10)), 12, 11, 10, 24, 21, 20);
        asked(at("n0,0,1;w0,0;w0,0;w0,0;o0,1;"), 0, 0, -1, 12, 11, 10, 24, 21, 20);
    }

    @Says(promise = 37, sentence = "13 of WOUND ones: what 10 gives, less 100.")
    static void sizeOfWoundOnes() {
        asked(at(FIVE), 3, 0, 5 - 100, 13, 10);
    }

    @Says(promise = 37, sentence = "14 of TURNED ones: what 13 gives, twice.")
    static void sizeOfTurnedOnes() {
        asked(at(FIVE), 4, 0, 2 * (6 - 100), 14, 13, 10);
    }

    @Says(promise = 37, sentence = "1 MARK: 20 lent to all DEEDS: the number. 21 of DRIVEN ones: what 20 gives, and HEIGHT of its FOOT.")
    static void markOfDrivenOnes() {
        NightLevel x = at("n0,0,1;w7,0;w8,0;w9,0;d2,20;d1,1;d0,1;");
        asked(x, 0, 1, 0 + 9, 21, 20);
        asked(x, 1, 1, 1 + 8, 21, 20);
        asked(x, 2, 1, 2 + 7, 21, 20);
        x.perform(1);
        asked(x, 1, 1, 1 + 9, 21, 20);
    }

    @Says(promise = 37, sentence = "22 of SUNK ones: what 21 gives, less 1000.")
    static void markOfSunkOnes() {
        asked(at(FIVE), 2, 1, 2 + 16 - 1000, 22, 21, 20);
    }

    @Says(promise = 37, sentence = "23 of WOUND ones: what 20 gives, less SIZE.")
    static void markOfWoundOnes() {
        asked(at(FIVE), 3, 1, 3 - (5 - 100), 23, 20, 13, 10);
    }

    @Says(promise = 37, sentence = "24 of OVERSHOT ones: what 21 gives, twice.")
    static void markOfOvershotOnes() {
        asked(at(FIVE), 1, 1, 2 * (1 + 10), 24, 21, 20);
    }

    @Says(promise = 37, sentence = "(Of an ask the BODY told for the KIND begins, else that of the nearest KIND that it is, too, else the one that is lent;")
    static void theNearestBodyBegins() {
        NightLevel x = at(FIVE);
        // No SIZE is told for SUNK: that of DRIVEN; no MARK for TURNED: that of WOUND.
        asked(x, 2, 0, 4 + 2 + 16 - 1000, 11, 10, 22, 21, 20);
        asked(x, 4, 1, 4 - 2 * (6 - 100), 23, 20, 14, 13, 10);
    }

    @Says(promise = 37, sentence = "SIZE, MARK within others are asked of the same DEED anew.)")
    static void withinOthersTheyAreAskedAnew() {
        NightLevel x = at(FIVE);
        // MARK within 11 is that of OVERSHOT (24), of SUNK (22); SIZE within 23 is that of TURNED (14).
        x.ask(1, 0);
        due("OVERSHOT", x.trace(3), 24);
        x.ask(2, 0);
        due("SUNK", x.trace(2), 22);
        x.ask(4, 1);
        due("TURNED", x.trace(2), 14);
    }

    @Says(promise = 37, sentence = "By this it is asked.")
    static void asksAreByKind() {
        int[] sizes = {11, 12, 11, 13, 14};
        int[] marks = {21, 24, 22, 23, 23};
        NightLevel x = at(FIVE);
        for (int one = 0; one < 5; one++) {
            x.ask(one, 0);
            due("SIZE of " + one, x.trace(0), sizes[one]);
            x.ask(one, 1);
            due("MARK of " + one, x.trace(0), marks[one]);
        }
    }

    // ---- 38

    @Says(promise = 38, sentence = "Number i of THE TRACE; NONE.")
    static void noSuchNumberOfTheTrace() {
        NightLevel x = at(FIVE);
        due("ahead of any ask", x.trace(0), NONE);
        x.ask(4, 1);
        int[] bodies = {23, 20, 14, 13, 10};
        for (int i = 0; i < 5; i++) due("trace(" + i + ")", x.trace(i), bodies[i]);
        for (int i : new int[] {5, 6, 15, 16, 17, MOST, -1, LEAST}) due("trace(" + i + ")", x.trace(i), NONE);
        due("no SITE", nowhere().trace(0), NONE);
        due("no SITE", nowhere().trace(-1), NONE);
    }

    @Says(promise = 38, sentence = "ASKS of DEEDS, by BODIES, each of which leaves its number in THE TRACE as it begins (the first 16)")
    static void theTraceStaysUntilTheNextAsk() {
        NightLevel x = at(FIVE);
        x.ask(1, 0);
        x.hours(3);
        x.perform(0);
        x.undo();
        told(x, SEVEN);
        x.image(0);
        x.restore(0);
        int[] bodies = {12, 11, 10, 24, 21, 20};
        for (int i = 0; i < 6; i++) due("trace(" + i + ")", x.trace(i), bodies[i]);
        due("trace(6)", x.trace(6), NONE);
    }

    // ---- 39

    @Says(promise = 39, sentence = "How many: 0 ROWS, 1 DEEDS, 2 DEEDS that are DONE (bits), 3 HOUR, 4 AWRY, 5 HEIGHT of all FEET together, 6 ACTS that can be undone, 7 bytes on the tape.")
    static void howMany() {
        NightLevel x = at(FIVE);
        x.row(4, 0, 0);
        x.row(5, 0, 3);
        x.row(5, 1, 3);
        x.hours(2);
        x.perform(0);
        x.perform(3);
        for (int i = 0; i < 3; i++) x.feed('n');
        int[] all = {2, 5, 9, 2, 1 + 3, 15 + 16 + 12, 4, 3};
        for (int what = 0; what < 8; what++) due("count(" + what + ")", x.count(what), all[what]);
    }

    @Says(promise = 39, sentence = "BAD.")
    static void noSuchCount() {
        refused(Probe::busy, BAD, x -> x.count(-1), x -> x.count(8), x -> x.count(LEAST), x -> x.count(MOST));
        refused(Probe::nowhere, BAD, x -> x.count(-1), x -> x.count(8));
    }

    @Says(promise = 39, sentence = "How many: 0 ROWS")
    static void countsOfNothingAndOfAll() {
        NightLevel x = nowhere();
        for (int what = 0; what < 8; what++) due("count(" + what + ")", x.count(what), 0);
        for (int row = 0; row < 8; row++) x.row(row, 0, 40);
        due("all ROWS", x.count(0), 8);
        told(x, "n9,9,9;w60,0;w60,0;w60,0;d0,1;d0,1;d0,1;d0,1;d0,1;d0,1;d0,1;");
        due("all DEEDS", x.count(1), 7);
        due("HEIGHT of all", x.count(5), 180);
        for (int deed = 0; deed < 7; deed++) x.perform(deed);
        due("all DONE", x.count(2), 127);
        x.hours(24);
        due("all ACTS", x.count(6), 24);
        for (int i = 0; i < 120; i++) x.feed('n');
        due("a full tape", x.count(7), 120);
    }

    // ---- 40

    @Says(promise = 40, sentence = "Of the latest call with a ROW, or as(), that was not BAD, STATE, FULL: the number of its FINDING;")
    static void theLatestFinding() {
        NightLevel x = at(FIVE);
        x.set(0, 0, 0);
        due("NULL", x.status(), 1);
        x.row(0, 0, 2);
        x.set(0, 2, 0);
        due("PLACE", x.status(), 2);
        x.as(0, 4);
        due("KIND", x.status(), 3);
        x.row(0, 0, -1);
        due("SIZE", x.status(), 4);
        x.row(1, 1, 2);
        x.copy(0, 0, 1, 0, 1);
        due("STORE", x.status(), 5);
        x.amounts(0, 0, 7, 0, 1);
        due("NULL", x.status(), 1);
        x.feet(0, 0, 0, 2, 1);
        due("PLACE", x.status(), 2);
        x.drop(7);
        due("NULL", x.status(), 1);
        due("asked again", x.status(), 1);
    }

    @Says(promise = 40, sentence = "that was not BAD, STATE, FULL")
    static void badAndStateDoNotCount() {
        NightLevel x = at(FIVE);
        x.row(0, 0, 2);
        x.perform(0);
        x.as(1, 4);
        Call[] bad = {y -> y.row(8, 0, 1), y -> y.row(0, 3, 1), y -> y.row(0, 0, 41), y -> y.set(8, 0, 0), y -> y.copy(8, 0, 0, 0, 0),
            y -> y.copy(0, 0, 8, 0, 0), y -> y.drop(8), y -> y.who(5, 0, 0, 0, 1), y -> y.feet(1, 2, 0, 0, 1),
            y -> y.amounts(1, 0, 0, 0, 13), y -> y.as(5, 0), y -> y.as(0, 6)};
        for (int i = 0; i < bad.length; i++) {
            due("call " + i, bad[i].on(x), BAD);
            due("status", x.status(), 3);
        }
        Call[] state = {y -> y.who(0, 0, 0, 0, 1), y -> y.feet(0, 0, 0, 0, 1), y -> y.amounts(0, 0, 0, 0, 1)};
        for (int i = 0; i < state.length; i++) {
            due("call " + i, state[i].on(x), STATE);
            due("status", x.status(), 3);
        }
        x.as(1, 2);
        for (Call call : bad) call.on(x);
        for (Call call : state) call.on(x);
        due("nor behind one that had none", x.status(), 0);
    }

    @Says(promise = 40, sentence = "Of the latest call with a ROW, or as()")
    static void otherCallsDoNotCount() {
        NightLevel x = busy();
        Call[] others = {y -> y.feed('n'), y -> y.site(), y -> y.fault(), y -> y.undo(), y -> y.hours(1), y -> y.perform(0),
            y -> y.board(2), y -> y.amount(2, 1), y -> y.jack(0, 1), y -> y.foot(0, 0), y -> y.deed(0, 0), y -> y.lean(0),
            y -> y.ahead(0, 1), y -> y.leanAhead(1, 0), y -> y.lasts(), y -> y.first(), y -> y.attempt(2), y -> y.best(0),
            y -> y.plan(0, 0), y -> y.boards(1, 0), y -> y.lift(0), y -> y.worst(1, 0), y -> y.wrong(1, 0), y -> y.drawn(1, 1, 0),
            y -> y.image(0), y -> y.restore(0), y -> y.kind(0), y -> y.ask(0, 0), y -> y.trace(0), y -> y.count(0),
            y -> told(y, FIRM)};
        for (int i = 0; i < others.length; i++) {
            others[i].on(x);
            due("status behind " + i, x.status(), 1);
        }
        NightLevel full = nowhere();
        full.drop(0);
        for (int i = 0; i < 121; i++) full.feed('n');
        due("nor does FULL", full.status(), 1);
    }

    @Says(promise = 40, sentence = "0: it had none, or there was none.")
    static void noFinding() {
        NightLevel x = nowhere();
        due("there was none", x.status(), 0);
        x.row(8, 0, 0);
        due("BAD is none", x.status(), 0);
        NightLevel y = at(FIVE);
        y.row(0, 0, 2);
        Call[] calls = {z -> z.row(0, 0, 2), z -> z.set(0, 0, 1), z -> z.copy(0, 0, 0, 1, 1), z -> z.who(0, 0, 0, 0, 1),
            z -> z.feet(0, 0, 0, 0, 1), z -> z.amounts(0, 0, 0, 0, 1), z -> z.as(0, 1), z -> z.drop(0)};
        for (int i = 0; i < calls.length; i++) {
            y.drop(7);
            due("NULL ahead of " + i, y.status(), 1);
            calls[i].on(y);
            due("none behind " + i, y.status(), 0);
        }
    }
}
