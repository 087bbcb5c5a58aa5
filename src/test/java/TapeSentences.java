/** Promises 6 to 9: the tape, how a SITE is read from it, FAULTS, what can be undone. */
final class TapeSentences extends Probe {
    private static final String LAW = "n0,0,1;";
    private static final String FEET = LAW + "w0,0;w0,0;w0,0;";

    private static NightLevel fullTape() {
        NightLevel x = at(SEVEN);
        for (int i = 0; i < 120; i++) x.feed('n');
        return x;
    }

    /** The text is read by an object that has all: it has this FAULT at this place, and all stays. */
    private static void faulty(String text, int number, int place) {
        NightLevel x = at(SEVEN);
        due("site of " + text, told(x, text), -1000100 - place);
        due("fault of " + text, x.fault(), number);
    }

    private static void isRead(String text, int deeds) {
        due("site of " + text, told(new NightLevel(), text), deeds);
    }

    // ---- 6

    @Says(promise = 6, sentence = "A byte (0 to 255) comes behind the tape: how many it has.")
    static void everyByteComes() {
        NightLevel x = nowhere();
        due("0", x.feed(0), 1);
        due("255", x.feed(255), 2);
        due("128", x.feed(128), 3);
        for (int i = 4; i <= 120; i++) due("byte " + i, x.feed(i), i);
        due("count(7)", x.count(7), 120);
    }

    @Says(promise = 6, sentence = "comes behind the tape")
    static void bytesStandOneBehindAnother() {
        NightLevel x = at(SEVEN);
        due("a text", told(x, "n1,2,3;w4,5;w6,7;w8,9;t2,10;"), 1);
        same("in its order", night(x), "4 6 8, 5 7 9, done 0, hour 0 10");
        due("site", x.site(), -1000100);
        x.feed('n');
        x.feed('n');
        due("the second of them", x.site(), -1000101);
    }

    @Says(promise = 6, sentence = "BAD; FULL.")
    static void noByte() {
        refused(Probe::busy, BAD, x -> x.feed(-1), x -> x.feed(256), x -> x.feed(LEAST), x -> x.feed(MOST),
            x -> x.feed('n' + 256));
    }

    @Says(promise = 6, sentence = "FULL.")
    static void noByteMoreThanThereIsRoomFor() {
        refused(TapeSentences::fullTape, FULL, x -> x.feed('n'), x -> x.feed(0), x -> x.feed(255));
    }

    @Says(promise = 6, sentence = "THE TAPE has at most 120 bytes, that come one by one")
    static void theTapeHasOneHundredTwentyBytes() {
        NightLevel x = nowhere();
        for (int i = 1; i <= 119; i++) x.feed('n');
        due("the 120th", x.feed('n'), 120);
        due("the 121st", x.feed('n'), FULL);
        due("count(7)", x.count(7), 120);
        x.site();
        due("anew", x.feed('n'), 1);
        NightLevel y = nowhere();
        String good = "n00,00,01;w00,00;w00,00;w00,00;d00,01;d00,01;d00,01;d00,01;d00,01;d00,01;d00,01;";
        for (int i = 0; i < 40; i++) due("byte", y.feed('n'), i + 1);
        for (int i = 0; i < good.length(); i++) due("byte", y.feed(good.charAt(i)), 41 + i);
        due("full", y.feed(';'), FULL);
        due("it is read as it is", y.site(), -1000101);
        due("the longest text", told(y, good), 7);
    }

    @Says(promise = 6, sentence = "Refusals are answers, the first of these that fits, but as told")
    static void noByteIsAheadOfFull() {
        refused(TapeSentences::fullTape, BAD, x -> x.feed(-1), x -> x.feed(256));
    }

    // ---- 7

    @Says(promise = 7, sentence = "The tape, empty then, is read")
    static void theTapeIsEmptyThen() {
        NightLevel x = nowhere();
        due("a good one", told(x, FIRM), 1);
        due("count(7)", x.count(7), 0);
        due("a wrong one", told(x, FEET), -1000122);
        due("count(7)", x.count(7), 0);
        due("an empty one", x.site(), -1000100);
        due("fault", x.fault(), 1);
        due("nothing of them is left", told(x, "d0,1;"), -1000100);
    }

    @Says(promise = 7, sentence = "how many DEEDS there are.")
    static void howManyDeedsThereAre() {
        StringBuilder text = new StringBuilder(FEET);
        for (int n = 1; n <= 7; n++) {
            text.append("dosut".charAt(n % 5)).append("1,1;");
            NightLevel x = nowhere();
            due(text.toString(), told(x, text.toString()), n);
            due("count(1)", x.count(1), n);
            due("the last", x.deed(n - 1, 1), 1);
            due("behind it", x.deed(n, 1), BAD);
        }
    }

    @Says(promise = 7, sentence = "-1000100 less the place of a FAULT: all stays.")
    static void allStaysByAFault() {
        NightLevel x = busy();
        NightLevel y = busy();
        // The tape holds "n0,0,1;w5,0": FAULT 1 of "x" at its place 11.
        x.feed('x');
        due("site", x.site(), -1000111);
        due("fault", x.fault(), 1);
        due("ACTS", x.count(6), 8);
        due("status", x.status(), 1);
        same("the SITE", night(x) + law(x), night(y) + law(y));
        for (int i = 0; i < 7; i++) due("trace", x.trace(i), y.trace(i));
        for (int left = 7; left >= 0; left--) {
            due("undo", x.undo(), left);
            y.undo();
            same("the SITE", night(x), night(y));
        }
        for (int k = 0; k < 2; k++) {
            due("restore", x.restore(k), 1);
            y.restore(k);
            same("the SITE", night(x) + law(x), night(y) + law(y));
        }
        due("ROWS", x.count(0), 4);
        NightLevel none = nowhere();
        due("no SITE", told(none, FEET + "d0,1"), -1000126);
        due("none yet", none.lean(0), STATE);
        due("none yet", none.count(1), 0);
    }

    @Says(promise = 7, sentence = "TOKENS: letters a to z (each by itself)")
    static void lettersStandByThemselves() {
        faulty("nn0,0,1;", 1, 1);
        faulty(LAW + "ww0,0;", 1, 8);
        faulty(FEET + "dd0,1;", 1, 23);
        for (char letter = 'a'; letter <= 'z'; letter++) {
            if (letter != 'n') faulty(letter + "0,0,1;", 1, 0);
            if (letter != 'w') faulty(LAW + letter + "0,0;", 1, 7);
            boolean isSort = "dosut".indexOf(letter) >= 0;
            if (isSort) isRead(FEET + letter + "0,1;", 1);
            if (!isSort && letter != 'w') faulty(FEET + letter + "0,1;", 1, 22);
            if (!isSort) faulty(FEET + "d0,1;" + letter + "0,1;", 1, 27);
        }
    }

    @Says(promise = 7, sentence = "NUMBERS (figures, 2 at most)")
    static void numbersHaveTwoFiguresAtMost() {
        isRead("n0,0,1;w0,0;w1,1;w9,9;d0,1;", 1);
        isRead("n00,09,01;w60,09;w01,00;w09,00;d02,01;", 1);
        NightLevel x = at("n00,09,01;w60,09;w01,00;w09,07;d02,08;");
        same("as they are read", night(x) + " " + x.deed(0, 0), "60 1 9, 9 0 7, done 0, hour 0 8 2");
        faulty("n000,0,1;", 1, 1);
        faulty(LAW + "w060,0;", 1, 8);
        faulty(LAW + "w60,009;", 1, 11);
        faulty(FEET + "d002,1;", 1, 23);
        faulty(FEET + "d0,001;", 1, 25);
    }

    @Says(promise = 7, sentence = "SIGNS , and ; nothing else.")
    static void nothingElseIsAToken() {
        int[] others = {0, 9, 10, 13, 32, '/', ':', '.', '-', '+', 'A', 'N', 'Z', '`', '{', 127, 128, 176, 228, 238, 255};
        for (int other : others) {
            char sign = (char) other;
            faulty(sign + LAW, 1, 0);
            faulty("n" + sign + "0,0,1;", 1, 1);
            faulty("n0" + sign + ",0,1;", 1, 2);
            faulty("n0" + sign + "0,1;", 1, 2);
            faulty("n0,0,1" + sign, 1, 6);
            faulty(LAW + sign, 1, 7);
            faulty(FEET + sign, 1, 22);
            faulty(FEET + "d" + sign + "0,1;", 1, 23);
            faulty(FEET + "d0,1;" + sign, 1, 27);
        }
    }

    @Says(promise = 7, sentence = "site: law foot foot foot deed { deed }.")
    static void onlyItsOwnTokenCanStandAtAPlace() {
        String[] tokens = "n 0 , 0 , 1 ; w 0 , 0 ; w 0 , 0 ; w 0 , 0 ; d 0 , 1 ; u 0 , 1 ;".split(" ");
        String[] aliens = {"n", "w", "d", "z", "1", ",", ";"};
        StringBuilder ahead = new StringBuilder();
        for (int i = 0; i < tokens.length; i++) {
            boolean isSort = tokens[i].equals("d") || tokens[i].equals("u");
            boolean isBehindNumber = i > 0 && (tokens[i - 1].equals("0") || tokens[i - 1].equals("1"));
            for (String alien : aliens) {
                boolean fits = alien.equals(tokens[i]) || alien.equals("1") && tokens[i].equals("0") || alien.equals("d") && isSort;
                boolean isFourthFoot = alien.equals("w") && tokens[i].equals("d");
                // A figure straight behind a number would be one of its own.
                boolean isFigureOfIt = alien.equals("1") && isBehindNumber;
                if (!fits && !isFourthFoot && !isFigureOfIt) faulty(ahead + alien, 1, i);
            }
            ahead.append(tokens[i]);
        }
        isRead(ahead.toString(), 2);
    }

    @Says(promise = 7, sentence = "law: n EGG , BED , RAIN ; (0 to 9; 0 to 9; 1 to 9).")
    static void theLawsNumbers() {
        String rest = ";w0,0;w0,0;w0,0;d0,1;";
        isRead("n0,0,1" + rest, 1);
        isRead("n9,9,9" + rest, 1);
        faulty("n10,0,1" + rest, 2, 1);
        faulty("n99,0,1" + rest, 2, 1);
        faulty("n0,10,1" + rest, 2, 3);
        faulty("n0,99,1" + rest, 2, 3);
        faulty("n0,0,0" + rest, 2, 5);
        faulty("n0,0,00" + rest, 2, 5);
        faulty("n0,0,10" + rest, 2, 5);
        faulty("n0,0,99" + rest, 2, 5);
        NightLevel x = at("n9,0,9;w9,1;w0,0;w4,0;d0,1;");
        due("EGG 9", x.lean(4), 1);
        due("RAIN 9", x.ahead(0, 9), 8);
        due("RAIN 9", x.ahead(0, 10), 7);
        due("BED 9", at("n0,9,1;w9,0;w9,0;w18,0;d0,1;").lean(4), 1);
    }

    @Says(promise = 7, sentence = "foot: w HEIGHT , SOFT ; (0 to 60; 0 to 9;")
    static void theFeetsNumbers() {
        String[] feet = {"w0,0;", "w0,0;", "w0,0;"};
        for (int foot = 0; foot < 3; foot++) {
            int at = 7 + 5 * foot;
            StringBuilder ahead = new StringBuilder(LAW);
            for (int i = 0; i < foot; i++) ahead.append(feet[i]);
            faulty(ahead + "w61,0;", 2, at + 1);
            faulty(ahead + "w99,0;", 2, at + 1);
            faulty(ahead + "w60,10;", 2, at + 4);
            faulty(ahead + "w0,99;", 2, at + 3);
        }
        isRead(LAW + "w60,9;w60,9;w60,9;d0,1;", 1);
        isRead(LAW + "w0,0;w0,0;w0,0;d0,1;", 1);
    }

    @Says(promise = 7, sentence = "FEET 0 the left wheel, 1 the right one, 2 the nose).")
    static void theFeetInTheirOrder() {
        NightLevel x = at("n0,0,1;w60,9;w0,0;w31,5;d0,1;");
        same("HEIGHTS", heights(x), "60 0 31");
        same("SOFTS", softs(x), "9 0 5");
        due("the left one higher", x.lean(0), 1060);
        due("the nose higher", x.lean(1), 1001);
    }

    @Says(promise = 7, sentence = "deed: SORT FOOT , AMOUNT ; (SORT: d driven, o overshot, s sunk, u wound, t turned; 0 to 2; 1 to 20;")
    static void theDeedsNumbers() {
        for (int i = 0; i < 5; i++) {
            char sort = "dosut".charAt(i);
            NightLevel x = at(FEET + sort + "0,1;" + sort + "2,20;" + sort + "1,20;");
            for (int deed = 0; deed < 3; deed++) due("KIND", x.kind(deed), i + 1);
            due("FOOT 0", x.deed(0, 0), 0);
            due("FOOT 2", x.deed(1, 0), 2);
            due("AMOUNT 1", x.deed(0, 1), 1);
            due("AMOUNT 20", x.deed(1, 1), 20);
            faulty(FEET + sort + "3,1;", 2, 23);
            faulty(FEET + sort + "99,1;", 2, 23);
            faulty(FEET + sort + "2,0;", 2, 25);
            faulty(FEET + sort + "2,00;", 2, 25);
            faulty(FEET + sort + "2,21;", 2, 25);
            faulty(FEET + sort + "2,99;", 2, 25);
        }
    }

    @Says(promise = 7, sentence = "DEEDS 0 .. 6, 7 at most).")
    static void sevenDeedsAtMost() {
        String seven = FEET + "d0,1;o1,2;s2,3;u0,4;t1,5;d2,6;o0,7;";
        NightLevel x = at(seven);
        due("DEED 6", x.deed(6, 1), 7);
        due("DEED 7", x.deed(7, 1), BAD);
        faulty(seven + "d0,1;", 3, 57);
    }

    @Says(promise = 7, sentence = "A SITE that is read stands in place of the one before (none at first)")
    static void aSiteStandsInPlaceOfTheOneBefore() {
        NightLevel x = at(SEVEN);
        due("another", told(x, "n9,0,9;w9,1;w0,2;w4,3;u1,9;"), 1);
        same("it is as told", night(x), "9 0 4, 1 2 3, done 0, hour 0 9");
        due("KIND", x.kind(0), 4);
        due("FOOT", x.deed(0, 0), 1);
        due("no more DEEDS", x.deed(1, 1), BAD);
        due("its EGG, its BED", x.lean(4), 1);
        due("its RAIN", x.ahead(0, 9), 8);
        due("more DEEDS again", told(x, SEVEN), 7);
        same("as told", night(x), "30 22 31, 2 1 3, done 0, hour 0 7 8 6 3 9 2 5");
    }

    @Says(promise = 7, sentence = "HOUR 0, no DEED is DONE; no ACT can be undone.")
    static void aSiteThatIsReadIsNew() {
        NightLevel x = busy();
        due("ahead of it, HOUR", x.count(3), 2);
        due("ahead of it, DONE", x.count(2), 1 << 1 | 1 << 3);
        due("ahead of it, ACTS", x.count(6), 8);
        due("site", told(x, ";w5,0;w5,0;d0,1;"), 1);
        due("HOUR", x.count(3), 0);
        due("DONE", x.count(2), 0);
        due("ACTS", x.count(6), 0);
        due("undo", x.undo(), STATE);
        due("the DEED can be DONE", x.perform(0), 1);
        due("and undone", x.undo(), 0);
        due("no more", x.undo(), STATE);
    }

    @Says(promise = 7, sentence = "FAULTS, the first TOKEN that has one (its first byte)")
    static void theFirstTokenThatHasAFault() {
        faulty("n10,10,10;", 2, 1);
        faulty("n0,10,0x", 2, 3);
        faulty("x10", 1, 0);
        faulty("n99999", 1, 1);
        faulty(LAW + "w61x", 2, 8);
        faulty(LAW + "w6x1", 1, 9);
        faulty(FEET + "w0,10", 3, 22);
        faulty(FEET + "d3,0;w", 2, 23);
        faulty(FEET + "d0,1;d2,21;", 2, 30);
        faulty(FEET + "d0,1;d12,1;", 2, 28);
    }

    @Says(promise = 7, sentence = "of one TOKEN the least")
    static void ofOneTokenTheLeast() {
        faulty("n100,", 1, 1);
        faulty("99", 1, 0);
        faulty("n0,0,1;61", 1, 7);
        faulty(FEET + "d0,1;99", 1, 27);
        faulty(FEET + "d0,210;", 1, 25);
        faulty(FEET + "d0,1;o1,2;s2,3;u0,4;t1,5;d2,6;o0,7;99", 1, 57);
        faulty(FEET + "d0,1;o1,2;s2,3;u0,4;t1,5;d2,6;o0,7;w", 1, 57);
    }

    @Says(promise = 7, sentence = "1 it cannot stand there, or is none (a run of three figures, at its first;")
    static void aRunOfThreeFigures() {
        faulty("n123,0,1;", 1, 1);
        faulty("n0,000,1;", 1, 3);
        faulty("n0,0,0001;", 1, 5);
        faulty(LAW + "w0000000000000000000000000000000,0;", 1, 8);
        faulty(LAW + "w0,999;", 1, 10);
        faulty(FEET + "d000,1;", 1, 23);
        faulty(FEET + "d2,020;", 1, 25);
        faulty("000", 1, 0);
        faulty(FEET + "d0,1;000", 1, 27);
        faulty("n0,0,123", 1, 5);
    }

    @Says(promise = 7, sentence = "the end: how many bytes there are);")
    static void theEndIsATokenToo() {
        String text = FEET + "d0,1;u2,20;";
        for (int length = 0; length < text.length(); length++) {
            // "d0,1;" ends behind byte 27; the figures of a number that is cut stand as they are.
            if (length != 27) faulty(text.substring(0, length), 1, length);
        }
        isRead(text.substring(0, 27), 1);
        isRead(text, 2);
    }

    @Says(promise = 7, sentence = "2 a NUMBER that is not as told;")
    static void aNumberThatIsNotAsTold() {
        faulty("n10,0,1;w0,0;w0,0;w0,0;d0,1;", 2, 1);
        faulty("n0,10,1;w0,0;w0,0;w0,0;d0,1;", 2, 3);
        faulty("n0,0,0;w0,0;w0,0;w0,0;d0,1;", 2, 5);
        faulty("n0,0,1;w61,0;w0,0;w0,0;d0,1;", 2, 8);
        faulty("n0,0,1;w0,10;w0,0;w0,0;d0,1;", 2, 10);
        faulty("n0,0,1;w0,0;w0,0;w0,0;d3,1;", 2, 23);
        faulty("n0,0,1;w0,0;w0,0;w0,0;d0,0;", 2, 25);
        faulty("n0,0,1;w0,0;w0,0;w0,0;d0,21", 2, 25);
    }

    @Says(promise = 7, sentence = "3 a fourth foot")
    static void aFourthFoot() {
        faulty(FEET + "w0,0;d0,1;", 3, 22);
        faulty(FEET + "w", 3, 22);
        faulty(FEET + "w99,99;", 3, 22);
        faulty(LAW + "w10,1;w20,2;w30,3;w40,4;", 3, 25);
    }

    @Says(promise = 7, sentence = "a deed more than there is room for (its letter).")
    static void anEighthDeed() {
        String seven = FEET + "d0,1;o1,2;s2,3;u0,4;t1,5;d2,6;o0,10;";
        isRead(seven, 7);
        for (char sort : "dosut".toCharArray()) {
            faulty(seven + sort, 3, 58);
            faulty(seven + sort + "0,1;", 3, 58);
            faulty(seven + sort + "9,99;", 3, 58);
        }
        faulty(seven + "n", 1, 58);
    }

    // ---- 8

    @Says(promise = 8, sentence = "The number of the latest FAULT")
    static void theLatestFault() {
        NightLevel x = nowhere();
        told(x, "n0,0,0;");
        due("a NUMBER", x.fault(), 2);
        told(x, FEET + "w");
        due("a fourth foot", x.fault(), 3);
        told(x, "");
        due("the end", x.fault(), 1);
        told(x, FIRM);
        due("behind a good one", x.fault(), 1);
        x.hours(25);
        x.restore(0);
        due("no refusal is one", x.fault(), 1);
    }

    @Says(promise = 8, sentence = "0 before one.")
    static void noFaultYet() {
        NightLevel x = nowhere();
        due("a new object", x.fault(), 0);
        due("a good text", told(x, FIRM), 1);
        due("behind it", x.fault(), 0);
        x.feed(-1);
        due("behind a refusal", x.fault(), 0);
    }

    // ---- 9

    @Says(promise = 9, sentence = "The latest ACT is undone: how many can be undone yet.")
    static void theLatestActIsUndone() {
        NightLevel x = at(FIVE);
        x.jack(0, 1);
        x.jack(1, 2);
        x.jack(2, 3);
        due("two yet", x.undo(), 2);
        same("FOOT 2", heights(x), "11 18 9");
        due("one yet", x.undo(), 1);
        same("FOOT 1", heights(x), "11 16 9");
        due("none yet", x.undo(), 0);
        same("FOOT 0", heights(x), "10 16 9");
    }

    @Says(promise = 9, sentence = "STATE: none.")
    static void noActCanBeUndone() {
        refused(Probe::nowhere, STATE, x -> x.undo());
        refused(() -> at(SEVEN), STATE, x -> x.undo(), x -> x.undo());
        NightLevel x = at(FIVE);
        x.hours(1);
        due("one", x.undo(), 0);
        due("none", x.undo(), STATE);
        due("none", x.count(6), 0);
    }

    @Says(promise = 9, sentence = "ACTS (24 at most are kept, of more the oldest is forgotten;")
    static void twentyFourActsAreKept() {
        NightLevel x = at("n0,0,1;w0,0;w0,0;w0,0;d0,1;");
        for (int act = 1; act <= 30; act++) {
            x.jack(act % 3, 1);
            due("ACTS behind " + act, x.count(6), Math.min(24, act));
        }
        for (int left = 23; left >= 0; left--) due("undo", x.undo(), left);
        due("no more", x.undo(), STATE);
        same("the oldest six stay", heights(x), "2 2 2");
        for (int act = 1; act <= 24; act++) x.jack(0, 1);
        for (int left = 23; left >= 0; left--) due("undo", x.undo(), left);
        same("exactly 24", heights(x), "2 2 2");
    }

    @Says(promise = 9, sentence = "each can be undone, the latest first)")
    static void eachKindOfActCanBeUndone() {
        NightLevel x = at(SEVEN);
        Call[] acts = {y -> y.hours(1), y -> y.perform(0), y -> y.board(2), y -> y.amount(6, 19), y -> y.jack(1, 20),
            y -> y.perform(4), y -> y.hours(3), y -> y.perform(2)};
        String[] before = new String[acts.length + 3];
        int kept = 0;
        for (Call act : acts) {
            before[x.count(6)] = night(x);
            act.on(x);
            kept = x.count(6);
        }
        due("an HOUR is one each", kept, 10);
        for (int left = 9; left >= 0; left--) {
            due("undo", x.undo(), left);
            if (before[left] != null) same("as it was", night(x), before[left]);
        }
    }

    @Says(promise = 9, sentence = "an HOUR; a DEED is DONE; a board: SOFT of a FOOT is 1 less; AMOUNT of a DEED is another; a FOOT is lifted by n.")
    static void whatIsAnAct() {
        Call[] acts = {y -> y.hours(1), y -> y.perform(0), y -> y.board(2), y -> y.amount(6, 19), y -> y.jack(1, 20)};
        for (int i = 0; i < acts.length; i++) {
            NightLevel x = at(SEVEN);
            String before = night(x);
            acts[i].on(x);
            due("ACTS behind " + i, x.count(6), 1);
            due("it has changed", night(x).equals(before) ? 1 : 0, 0);
            due("undo", x.undo(), 0);
            same("undone", night(x), before);
        }
    }

    @Says(promise = 9, sentence = "HEIGHT is 0 to 99 always (cut at once)")
    static void whatWasCutIsUndoneWhole() {
        NightLevel x = at("n0,0,1;w3,9;w60,9;w2,0;s1,20;u0,20;");
        x.hours(1);
        same("cut at 0", heights(x), "0 51 2");
        x.undo();
        same("undone", heights(x), "3 60 2");
        x.jack(1, 20);
        x.jack(1, 20);
        due("cut at 99", x.foot(1, 0), 99);
        x.undo();
        due("undone", x.foot(1, 0), 80);
        x.perform(0);
        due("cut at 99", x.foot(1, 0), 99);
        due("SOFT cut at 9", x.foot(1, 1), 9);
        x.undo();
        due("undone", x.foot(1, 0), 80);
        due("undone", x.foot(1, 1), 9);
    }
}
