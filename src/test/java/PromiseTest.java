/** For each promise of the document: ordinary calls, the edges that it names, and wrong ones. */
public final class PromiseTest {
    private static final int NONE = -1000000, BAD = -1000001, STATE = -1000002, FULL = -1000003;
    private static final int NULL = -1000011, PLACE = -1000012, KIND = -1000013, SIZE = -1000014, STORE = -1000015;
    private static final int LEAST = Integer.MIN_VALUE, MOST = Integer.MAX_VALUE;

    /** All five KINDS; SIDE -6, MIDDLE 13, ALONG -4. */
    private static final String MIXED = "n1,2,3;w10,1;w16,0;w9,2;d0,6;o0,9;s1,4;u2,5;t0,6;d2,3;";
    /** Ground that holds; SIDE 0, ALONG 0; a DEED lifts FOOT 0, so that SIDE tells its AMOUNT. */
    private static final String FIRM = "n0,0,1;w5,0;w5,0;w5,0;d0,1;";
    /** SIDE 8, MIDDLE 26, ALONG 5. */
    private static final String SOGGY = "n2,3,4;w30,2;w22,1;w31,3;s1,7;o2,8;u0,6;d0,3;t1,9;";

    private static int wrong = 0;
    private static int promise = 0;

    private static void due(String what, long got, long want) {
        if (got == want) return;
        wrong++;
        System.out.println("promise " + promise + ": " + what + " answered " + got + ", due is " + want);
    }

    private static void tell(NightLevel x, String text) {
        for (int i = 0; i < text.length(); i++) x.feed(text.charAt(i));
    }

    private static NightLevel at(String text) {
        NightLevel x = new NightLevel();
        tell(x, text);
        if (x.site() < 1) throw new IllegalArgumentException(text);
        return x;
    }

    /** Everything of a SITE that can be asked, as one text. */
    private static String all(NightLevel x) {
        StringBuilder s = new StringBuilder();
        for (int foot = 0; foot < 3; foot++) s.append(x.foot(foot, 0)).append('/').append(x.foot(foot, 1)).append(' ');
        for (int deed = 0; deed < x.count(1); deed++) {
            s.append(x.kind(deed)).append('/').append(x.deed(deed, 0)).append('/').append(x.deed(deed, 1)).append(' ');
        }
        s.append(x.count(2)).append(' ').append(x.count(3)).append(' ').append(x.lasts()).append(' ').append(x.first());
        s.append(' ').append(x.ahead(0, 5)).append(' ').append(x.ahead(0, 6)).append(' ').append(x.ahead(0, 7));
        return s.toString();
    }

    private static void same(String what, String got, String want) {
        if (!got.equals(want)) System.out.println("promise " + promise + ": " + got + " is not " + want);
        due(what, got.equals(want) ? 1 : 0, 1);
    }

    /** ITEMS 1 to 20 of a ROW at a FIRM site, read by the AMOUNT that fits. */
    private static int item(NightLevel x, int row, int i) {
        return Integer.numberOfTrailingZeros(x.amounts(0, 0, row, i, 1));
    }

    private static void aNewObject() {
        NightLevel x = new NightLevel();
        for (int what = 0; what < 8; what++) due("count(" + what + ")", x.count(what), 0);
        due("status", x.status(), 0);
        due("fault", x.fault(), 0);
        due("trace", x.trace(0), NONE);
        for (int row = 0; row < 8; row++) due("drop", x.drop(row), NULL);
        due("lasts", x.lasts(), STATE);
        due("undo", x.undo(), STATE);
        due("restore(0)", x.restore(0), STATE);
        due("restore(1)", x.restore(1), STATE);
        due("NONE", NightLevel.NONE, NONE);
        due("BAD", NightLevel.BAD, BAD);
        due("STATE", NightLevel.STATE, STATE);
        due("FULL", NightLevel.FULL, FULL);
    }

    private static void row() {
        NightLevel x = at(FIRM);
        due("none", x.row(0, 0, 0), 0);
        due("40", x.row(7, 2, 40), 40);
        due("there are two", x.count(0), 2);
        due("41", x.row(7, 2, 41), BAD);
        due("ROW -1", x.row(-1, 0, 1), BAD);
        due("ROW 8", x.row(8, 0, 1), BAD);
        due("LANE -1", x.row(0, -1, 1), BAD);
        due("LANE 3", x.row(0, 3, 1), BAD);
        due("BAD ahead of SIZE", x.row(8, 0, -1), BAD);
        due("BAD ahead of SIZE", x.row(0, 3, -1), BAD);
        due("fewer than none", x.row(7, 0, -1), SIZE);
        due("by far", x.row(7, 0, LEAST), SIZE);
        due("it stays", x.drop(7), 40);
        x.row(1, 0, 2);
        x.set(1, 0, 9);
        x.set(1, 1, 9);
        due("in place", x.row(1, 1, 3), 3);
        x.set(1, 1, 7);
        due("0 at first", x.amounts(0, 0, 1, 0, 1), 0);
        due("its own", item(x, 1, 1), 7);
        due("the new size", x.set(1, 2, 300), 300);
    }

    private static void set() {
        NightLevel x = new NightLevel();
        x.row(0, 0, 2);
        x.row(1, 1, 2);
        x.row(2, 2, 2);
        due("a byte", x.set(0, 0, 127), 127);
        due("a byte", x.set(0, 0, 128), -128);
        due("a byte", x.set(0, 1, 256 + 5), 5);
        due("a byte", x.set(0, 1, -129), 127);
        due("a short", x.set(1, 0, 32767), 32767);
        due("a short", x.set(1, 0, 32768), -32768);
        due("a short", x.set(1, 1, 65536 * 3 - 1), -1);
        due("an int", x.set(2, 0, MOST), MOST);
        due("an int", x.set(2, 1, LEAST), LEAST);
        due("ROW -1", x.set(-1, 0, 0), BAD);
        due("ROW 8", x.set(8, 0, 0), BAD);
        due("missing", x.set(3, 0, 0), NULL);
        due("missing ahead of PLACE", x.set(3, -1, 0), NULL);
        due("PLACE -1", x.set(0, -1, 0), PLACE);
        due("PLACE 2", x.set(0, 2, 0), PLACE);
        due("PLACE by far", x.set(0, MOST, 0), PLACE);
        due("PLACE by far", x.set(0, LEAST, 0), PLACE);
        NightLevel y = at(FIRM);
        y.row(0, 0, 2);
        y.set(0, 1, 256 + 11);
        due("it is kept so", item(y, 0, 1), 11);
        due("the other is not", y.amounts(0, 0, 0, 0, 1), 0);
    }

    private static void copy() {
        NightLevel x = at(FIRM);
        x.row(0, 0, 6);
        for (int i = 0; i < 6; i++) x.set(0, i, i + 1);
        due("behind itself", x.copy(0, 0, 0, 2, 4), 4);
        int[] shifted = {1, 2, 1, 2, 3, 4};
        for (int i = 0; i < 6; i++) due("ITEM " + i, item(x, 0, i), shifted[i]);
        due("ahead of itself", x.copy(0, 2, 0, 1, 4), 4);
        int[] back = {1, 1, 2, 3, 4, 4};
        for (int i = 0; i < 6; i++) due("ITEM " + i, item(x, 0, i), back[i]);
        x.row(1, 0, 3);
        due("to another", x.copy(0, 3, 1, 1, 2), 2);
        due("ITEM 1", item(x, 1, 1), 3);
        due("ITEM 2", item(x, 1, 2), 4);
        due("none at both ends", x.copy(0, 6, 1, 3, 0), 0);
        due("ROW -1", x.copy(-1, 0, 1, 0, 0), BAD);
        due("ROW 8", x.copy(0, 0, 8, 0, 0), BAD);
        due("BAD ahead of NULL", x.copy(5, 0, 8, 0, 0), BAD);
        due("a missing", x.copy(5, 0, 1, 0, 0), NULL);
        due("b missing", x.copy(0, 0, 5, 0, 0), NULL);
        x.row(2, 1, 3);
        due("NULL ahead of PLACE", x.copy(0, -1, 5, 0, 0), NULL);
        due("two LANES", x.copy(0, 0, 2, 0, 0), STORE);
        due("STORE ahead of PLACE", x.copy(0, -1, 2, 0, 0), STORE);
        due("i -1", x.copy(0, -1, 1, 0, 1), PLACE);
        due("j -1", x.copy(0, 0, 1, -1, 1), PLACE);
        due("n -1", x.copy(0, 0, 1, 0, -1), PLACE);
        due("i beyond", x.copy(0, 6, 1, 0, 1), PLACE);
        due("i beyond, none", x.copy(0, 7, 1, 0, 0), PLACE);
        due("j beyond", x.copy(0, 0, 1, 3, 1), PLACE);
        due("n beyond", x.copy(0, 0, 1, 0, 4), PLACE);
        due("by far", x.copy(0, MOST, 1, 0, MOST), PLACE);
        due("by far", x.copy(0, 1, 1, 1, MOST), PLACE);
        due("by far", x.copy(0, LEAST, 1, LEAST, LEAST), PLACE);
        due("nothing came", item(x, 1, 2), 4);
    }

    private static void drop() {
        NightLevel x = new NightLevel();
        x.row(3, 1, 17);
        due("it had", x.drop(3), 17);
        due("there is none", x.count(0), 0);
        due("again", x.drop(3), NULL);
        due("status", x.status(), 1);
        x.row(3, 1, 0);
        due("an empty one", x.drop(3), 0);
        due("ROW -1", x.drop(-1), BAD);
        due("ROW 8", x.drop(8), BAD);
        due("status", x.status(), 0);
    }

    private static void feed() {
        NightLevel x = new NightLevel();
        due("-1", x.feed(-1), BAD);
        due("256", x.feed(256), BAD);
        due("0", x.feed(0), 1);
        due("255", x.feed(255), 2);
        for (int i = 3; i <= 120; i++) due("byte " + i, x.feed('n'), i);
        due("BAD ahead of FULL", x.feed(256), BAD);
        due("the 121st", x.feed('n'), FULL);
        due("it stays", x.count(7), 120);
        due("a byte that is none", x.site(), -1000100);
        due("empty then", x.feed('n'), 1);
    }

    private static void faulty(String text, int number, int place) {
        NightLevel x = at(SOGGY);
        x.hours(3);
        x.perform(1);
        String before = all(x);
        tell(x, text);
        due(text, x.site(), -1000100 - place);
        due("fault of " + text, x.fault(), number);
        due("the tape is empty", x.count(7), 0);
        due("ACTS stay", x.count(6), 4);
        same("all stays", all(x), before);
    }

    private static void site() {
        NightLevel x = new NightLevel();
        tell(x, MIXED);
        due("six", x.site(), 6);
        due("the tape is empty", x.count(7), 0);
        same("it is as told", all(x).substring(0, 54), "10/1 16/0 9/2 1/0/6 2/0/9 3/1/4 4/2/5 5/0/6 1/2/3 0 0 ");
        x.hours(2);
        x.perform(0);
        tell(x, FIRM);
        due("in place", x.site(), 1);
        due("HOUR", x.count(3), 0);
        due("DONE", x.count(2), 0);
        due("ACTS", x.count(6), 0);
        due("undo", x.undo(), STATE);
        due("at most", at("n09,09,09;w60,09;w00,0;w60,9;d2,20;d0,01;d0,1;d0,1;d0,1;d0,1;u2,20;").count(1), 7);
        due("EGG and BED", at("n9,9,9;w9,0;w0,0;w13,0;d0,1;").lean(4), 1);
        due("EGG", at("n8,9,9;w9,0;w0,0;w13,0;d0,1;").lean(4), 0);
        due("BED", at("n9,8,9;w9,0;w0,0;w13,0;d0,1;").lean(4), 0);
        String law = "n0,0,1;";
        String three = law + "w0,0;w0,0;w0,0;";
        faulty("", 1, 0);
        faulty("w", 1, 0);
        faulty("N0", 1, 0);
        faulty("n", 1, 1);
        faulty("nn", 1, 1);
        faulty("n,", 1, 1);
        faulty("n100,", 1, 1);
        faulty("n000", 1, 1);
        faulty("n10x", 2, 1);
        faulty("n99", 2, 1);
        faulty("n0", 1, 2);
        faulty("n0;", 1, 2);
        faulty("n0,10,1;", 2, 3);
        faulty("n0,0,0;", 2, 5);
        faulty("n0,0,00;", 2, 5);
        faulty("n0,0,10;", 2, 5);
        faulty("n0,0,1,", 1, 6);
        faulty("n0, 0,1;", 1, 3);
        faulty(law, 1, 7);
        faulty(law + "d0,1;", 1, 7);
        faulty(law + "5", 1, 7);
        faulty(law + "w61,0;", 2, 8);
        faulty(law + "w600,0;", 1, 8);
        faulty(law + "w60,10;", 2, 11);
        faulty(law + "w0,0;w0,0;d0,1;", 1, 17);
        faulty(three, 1, 22);
        faulty(three + "w", 3, 22);
        faulty(three + "w0,0;d0,1;", 3, 22);
        faulty(three + "n", 1, 22);
        faulty(three + ";", 1, 22);
        faulty(three + "x0,1;", 1, 22);
        faulty(three + "d3,1;", 2, 23);
        faulty(three + "d0,0;", 2, 25);
        faulty(three + "d0,21;", 2, 25);
        faulty(three + "d0,210;", 1, 25);
        faulty(three + "d0;", 1, 24);
        faulty(three + "d0,1", 1, 26);
        faulty(three + "d0,1;5", 1, 27);
        faulty(three + "d0,1;;", 1, 27);
        faulty(three + "d0,1;w0,0;", 1, 27);
        faulty(three + "d0,1;" + (char) 10, 1, 27);
        faulty(three + "d0,1;" + (char) 228, 1, 27);
        String seven = three + "d0,1;o0,1;s0,1;u0,1;t0,1;d0,1;d0,1;";
        faulty(seven + "d", 3, 57);
        faulty(seven + "t0,1;", 3, 57);
        faulty(seven + "n", 1, 57);
        faulty(seven + "9", 1, 57);
        faulty("nw0,0;w0,0;w0,0;d0,1;", 1, 1);
        faulty(law + "wwwd0,1;", 1, 8);
        faulty(three + "dd0,1;", 1, 23);
        NightLevel y = new NightLevel();
        tell(y, three + "d0,1;");
        y.site();
        tell(y, three);
        due("no byte of the tape before", y.site(), -1000122);
    }

    private static void fault() {
        NightLevel x = new NightLevel();
        due("before one", x.fault(), 0);
        tell(x, "n0,0,0;");
        x.site();
        due("a NUMBER", x.fault(), 2);
        tell(x, FIRM);
        due("a good one behind it", x.site(), 1);
        due("the latest one", x.fault(), 2);
        x.site();
        due("another", x.fault(), 1);
    }

    private static void undo() {
        NightLevel x = at(SOGGY);
        String[] before = new String[6];
        before[0] = all(x);
        x.hours(1);
        before[1] = all(x);
        x.perform(4);
        before[2] = all(x);
        x.board(2);
        before[3] = all(x);
        x.amount(0, 20);
        before[4] = all(x);
        x.jack(1, 20);
        for (int left = 4; left >= 0; left--) {
            due("yet", x.undo(), left);
            same("as before", all(x), before[left]);
        }
        due("none", x.undo(), STATE);
        x.hours(24);
        String hour24 = all(x);
        x.perform(0);
        due("24 at most", x.count(6), 24);
        due("the latest", x.undo(), 23);
        same("the latest first", all(x), hour24);
        for (int left = 22; left >= 0; left--) due("yet", x.undo(), left);
        due("the oldest is forgotten", x.count(3), 1);
        due("none", x.undo(), STATE);
        x.jack(0, 1);
        due("an ACT again", x.undo(), 0);
        NightLevel y = at("n0,0,1;w60,9;w60,0;w60,0;s0,20;d0,20;d0,20;");
        y.perform(0);
        y.perform(1);
        due("cut at 99", y.foot(0, 0), 99);
        due("cut at 9", y.foot(0, 1), 9);
        y.undo();
        due("not by less", y.foot(0, 0), 80);
        y.undo();
        due("not by less", y.foot(0, 0), 60);
        due("SOFT was 9", y.foot(0, 1), 9);
        NightLevel z = at(SOGGY);
        z.hours(0);
        z.board(3);
        z.jack(0, 21);
        z.amount(0, 0);
        z.perform(5);
        due("what is refused is no ACT", z.count(6), 0);
    }

    private static void hours() {
        NightLevel x = at("n0,0,3;w20,1;w20,2;w20,0;d0,1;");
        due("HOUR 0: rain", x.hours(1), 1 + 2);
        due("height", x.foot(0, 0), 19);
        due("none", x.hours(2), 3);
        due("HOUR", x.count(3), 3);
        due("HOUR 3: rain", x.hours(1), 2 + 3);
        due("an ACT each", x.count(6), 4);
        due("0", x.hours(0), BAD);
        due("25", x.hours(25), BAD);
        due("-1", x.hours(-1), BAD);
        due("24", x.hours(24), 10 + 15);
        due("HEIGHT", x.foot(1, 0), 20 - 2 * 10);
        due("HOUR 27: rain, not below 0", x.hours(3), 9 + 16);
        due("HEIGHT", x.foot(1, 0), 0);
        for (int i = 0; i < 40; i++) x.hours(24);
        due("HOUR", x.count(3), 991);
        due("above 999", x.hours(9), FULL);
        due("BAD ahead of FULL", x.hours(25), BAD);
        due("HOUR stays", x.count(3), 991);
        due("up to 999", x.hours(8), 20);
        due("HOUR", x.count(3), 999);
        due("above", x.hours(1), FULL);
        due("no SITE", new NightLevel().hours(1), STATE);
        due("no SITE, ahead of BAD", new NightLevel().hours(0), STATE);
    }

    private static void perform() {
        NightLevel x = at(MIXED);
        due("driven", x.perform(0), 0 + 7);
        due("driven lifts", x.foot(0, 0), 16);
        due("it is DONE", x.perform(0), STATE);
        due("overshot", x.perform(1), 5 + 9);
        due("half and 1 more", x.foot(0, 0), 21);
        due("sunk", x.perform(2), 1 + 11);
        due("as driven", x.foot(1, 0), 20);
        due("softer", x.foot(1, 1), 1);
        due("wound, below 0", x.perform(3), 1 + 6);
        due("lifted", x.foot(2, 0), 14);
        due("turned", x.perform(4), 1 + 3);
        due("changed", x.foot(0, 0), 20);
        due("changed", x.foot(1, 0), 21);
        due("lifted by half", x.foot(2, 0), 17);
        due("driven, the nose", x.perform(5), 1 + 0);
        due("all", x.lean(5), 63);
        due("-1", x.perform(-1), BAD);
        due("6", x.perform(6), BAD);
        due("no SITE", new NightLevel().perform(0), BAD);
        NightLevel y = at("n0,0,1;w10,3;w10,4;w10,0;u0,4;t0,7;t0,1;s0,1;s1,1;u1,20;");
        due("wound, at 0, lowers", y.perform(0), 4);
        due("lowered", y.foot(2, 0), 6);
        due("turned", y.perform(1), 1);
        due("half, cut", y.foot(2, 0), 9);
        due("SOFT changed", y.foot(0, 1), 4);
        due("SOFT changed", y.foot(1, 1), 3);
        due("half of 1", y.perform(2), 1);
        due("no more", y.foot(2, 0), 9);
        due("sunk", y.perform(3), 1 + 1);
        due("softer", y.foot(0, 1), 4);
        due("sunk", y.perform(4), 0 + 2);
        due("softer", y.foot(1, 1), 5);
        due("lifted", y.perform(5), 18);
        NightLevel z = at("n0,0,1;w9,0;w9,0;w9,0;u0,20;o1,20;o1,1;");
        due("not below 0", z.perform(0), 9);
        due("overshot", z.perform(1), 11 + 14);
        due("overshot by 1", z.foot(1, 0), 20);
        z.perform(2);
        due("0 and 1 more", z.foot(1, 0), 21);
    }

    private static void board() {
        NightLevel x = at("n0,0,1;w10,2;w10,0;w10,9;d0,1;");
        due("one", x.board(0), 1);
        due("two", x.board(0), 0);
        due("SOFT is 0", x.board(0), STATE);
        due("SOFT is 0", x.board(1), STATE);
        due("the nose", x.board(2), 8);
        due("it sinks less", x.ahead(2, 1), 2);
        due("ACTS", x.count(6), 3);
        due("-1", x.board(-1), BAD);
        due("3", x.board(3), BAD);
        due("no SITE, ahead of BAD", new NightLevel().board(3), STATE);
    }

    private static void amount() {
        NightLevel x = at(MIXED);
        due("what it was", x.amount(1, 20), 9);
        due("what it was", x.amount(1, 1), 20);
        due("is", x.deed(1, 1), 1);
        due("the same", x.amount(1, 1), 1);
        due("an ACT too", x.count(6), 3);
        due("0", x.amount(1, 0), BAD);
        due("21", x.amount(1, 21), BAD);
        due("-1", x.amount(-1, 1), BAD);
        due("6", x.amount(6, 1), BAD);
        x.perform(1);
        due("it is DONE", x.amount(1, 2), STATE);
        due("BAD ahead", x.amount(1, 21), BAD);
        due("no SITE", new NightLevel().amount(0, 1), BAD);
        due("by the new one", x.foot(0, 0), 11);
    }

    private static void jack() {
        NightLevel x = at("n0,0,1;w60,9;w0,0;w60,0;d0,1;");
        due("lifted", x.jack(0, 20), 80);
        due("lifted", x.jack(0, 19), 99);
        due("not above 99", x.jack(0, 1), 99);
        due("an ACT", x.count(6), 3);
        due("undone", x.undo(), 2);
        due("the right one", x.jack(1, 1), 1);
        due("the nose", x.jack(2, 3), 63);
        due("0", x.jack(0, 0), BAD);
        due("21", x.jack(0, 21), BAD);
        due("-1", x.jack(-1, 1), BAD);
        due("3", x.jack(3, 1), BAD);
        due("no SITE, ahead of BAD", new NightLevel().jack(3, 0), STATE);
    }

    private static void foot() {
        NightLevel x = at(SOGGY);
        int[][] told = {{30, 2}, {22, 1}, {31, 3}};
        for (int f = 0; f < 3; f++) {
            due("HEIGHT " + f, x.foot(f, 0), told[f][0]);
            due("SOFT " + f, x.foot(f, 1), told[f][1]);
        }
        due("what -1", x.foot(0, -1), BAD);
        due("what 2", x.foot(0, 2), BAD);
        due("-1", x.foot(-1, 0), BAD);
        due("3", x.foot(3, 0), BAD);
        due("no SITE, ahead of BAD", new NightLevel().foot(3, 2), STATE);
    }

    private static void deed() {
        NightLevel x = at(SOGGY);
        due("FOOT", x.deed(1, 0), 2);
        due("AMOUNT", x.deed(1, 1), 8);
        due("not DONE", x.deed(1, 2), 0);
        x.perform(1);
        due("DONE", x.deed(1, 2), 1);
        due("not DONE", x.deed(0, 2), 0);
        due("what -1", x.deed(1, -1), BAD);
        due("what 3", x.deed(1, 3), BAD);
        due("-1", x.deed(-1, 0), BAD);
        due("5", x.deed(5, 0), BAD);
        due("by far", x.deed(MOST, 0), BAD);
        due("no SITE", new NightLevel().deed(0, 0), BAD);
    }

    private static void lean() {
        NightLevel x = at("n6,4,3;w10,1;w17,0;w9,2;d0,6;o0,9;d1,1;");
        due("SIDE", x.lean(0), 993);
        due("ALONG", x.lean(1), 996);
        due("MIDDLE, cut", x.lean(2), 13);
        due("AWRY", x.lean(3), 11);
        due("not LEVEL", x.lean(4), 0);
        due("none DONE", x.lean(5), 0);
        x.jack(0, 1);
        due("SIDE", x.lean(0), 994);
        due("MIDDLE, cut", x.lean(2), 14);
        due("ALONG", x.lean(1), 995);
        due("not LEVEL by ALONG", x.lean(4), 0);
        x.jack(2, 1);
        due("LEVEL", x.lean(4), 1);
        x.perform(2);
        x.perform(0);
        due("SIDE", x.lean(0), 999);
        due("DONE", x.lean(5), 5);
        due("-1", x.lean(-1), BAD);
        due("6", x.lean(6), BAD);
        due("no SITE, ahead of BAD", new NightLevel().lean(6), STATE);
    }

    private static void ahead() {
        NightLevel x = at("n0,0,3;w20,1;w20,9;w50,0;d0,1;");
        due("now", x.ahead(0, 0), 20);
        due("1", x.ahead(0, 1), 19);
        due("3", x.ahead(0, 3), 19);
        due("4", x.ahead(0, 4), 18);
        due("60", x.ahead(0, 60), 0);
        due("57", x.ahead(0, 57), 1);
        due("not below 0", x.ahead(1, 7), 0);
        due("firm", x.ahead(2, 60), 50);
        due("nothing changes", x.foot(0, 0), 20);
        x.hours(2);
        due("from HOUR 2", x.ahead(0, 1), 19);
        due("from HOUR 2", x.ahead(0, 2), 18);
        due("-1", x.ahead(0, -1), BAD);
        due("61", x.ahead(0, 61), BAD);
        due("FOOT -1", x.ahead(-1, 0), BAD);
        due("FOOT 3", x.ahead(3, 0), BAD);
        due("no SITE, ahead of BAD", new NightLevel().ahead(3, 61), STATE);
    }

    private static void leanAhead() {
        NightLevel x = at("n0,0,2;w20,1;w20,3;w20,0;d0,1;");
        due("SIDE now", x.leanAhead(0, 0), 1000);
        due("ALONG now", x.leanAhead(0, 1), 1000);
        due("SIDE", x.leanAhead(1, 0), 1002);
        due("ALONG", x.leanAhead(1, 1), 1002);
        due("SIDE", x.leanAhead(3, 0), 1004);
        due("ALONG", x.leanAhead(3, 1), 1004);
        due("SIDE 60", x.leanAhead(60, 0), 1000);
        due("ALONG 60", x.leanAhead(60, 1), 1020);
        due("what 2", x.leanAhead(0, 2), BAD);
        due("what -1", x.leanAhead(0, -1), BAD);
        due("61", x.leanAhead(61, 0), BAD);
        due("-1", x.leanAhead(-1, 0), BAD);
        due("no SITE, ahead of BAD", new NightLevel().leanAhead(61, 2), STATE);
    }

    private static void lasts() {
        due("now not", at(SOGGY).lasts(), 0);
        due("so far", at(FIRM).lasts(), 61);
        due("EGG 1", at("n1,9,3;w20,1;w20,0;w20,0;d0,1;").lasts(), 4);
        due("BED 0", at("n9,0,9;w20,1;w20,0;w20,0;d0,1;").lasts(), 1);
        due("60", at("n6,9,9;w60,1;w60,0;w60,0;d0,1;").lasts(), 55);
        NightLevel x = at("n6,9,9;w60,1;w60,0;w60,0;d0,1;");
        x.hours(4);
        due("later", x.lasts(), 51);
        x.board(0);
        due("firm now", x.lasts(), 61);
        NightLevel y = at("n6,9,9;w60,1;w60,0;w60,0;d0,1;d1,1;");
        y.hours(4);
        y.jack(0, 1);
        due("behind 60", y.lasts(), 60);
        NightLevel z = at("n6,9,9;w60,1;w60,0;w60,0;d0,1;d1,1;");
        z.hours(3);
        z.jack(0, 1);
        due("behind 61", z.lasts(), 61);
        due("no SITE", new NightLevel().lasts(), STATE);
    }

    private static void first() {
        due("now", at(FIRM).first(), 0);
        due("never", at(SOGGY).first(), NONE);
        due("behind 9", at("n0,0,2;w15,1;w10,0;w10,0;d0,1;").first(), 9);
        due("by ALONG", at("n0,0,1;w10,0;w10,0;w13,2;d0,1;").first(), NONE);
        due("by ALONG, BED 1", at("n0,1,1;w10,0;w10,0;w13,2;d0,1;").first(), 1);
        NightLevel x = at("n0,9,9;w7,1;w0,0;w5,0;d0,1;");
        due("behind 55", x.first(), 55);
        x.hours(4);
        x.jack(0, 1);
        due("behind 60", x.first(), 60);
        x.undo();
        x.undo();
        x.jack(0, 1);
        due("behind 61", x.first(), NONE);
        due("no SITE", new NightLevel().first(), STATE);
    }

    private static void attempt() {
        NightLevel x = at(MIXED);
        String before = all(x);
        int[] awry = {7, 7, 16, 7, 7, 7};
        for (int d = 0; d < 6; d++) due("DEED " + d, x.attempt(d), awry[d]);
        same("nothing changes", all(x), before);
        due("no ACT", x.count(6), 0);
        x.perform(2);
        due("it is DONE", x.attempt(2), STATE);
        due("upon it", x.attempt(0), 4 + 9);
        due("-1", x.attempt(-1), BAD);
        due("6", x.attempt(6), BAD);
        due("no SITE", new NightLevel().attempt(0), BAD);
    }

    private static void best() {
        NightLevel x = at("n0,0,1;w10,0;w16,0;w13,0;d1,1;d0,5;d0,6;o0,9;");
        due("which", x.best(0), 1);
        due("AWRY", x.best(1), 1 + 2);
        x.perform(1);
        due("which", x.best(0), 0);
        due("AWRY", x.best(1), 2 + 3);
        x.perform(0);
        due("the last", x.best(0), 3);
        due("AWRY", x.best(1), 3 + 5);
        NightLevel y = at(MIXED);
        due("the first of several", y.best(0), 0);
        y.perform(0);
        due("the next", y.best(1), 2);
        NightLevel z = at(FIRM);
        due("worse than none", z.best(1), 1);
        z.perform(0);
        due("all DONE", z.best(0), NONE);
        due("all DONE", z.best(1), NONE);
        due("-1", z.best(-1), BAD);
        due("2", z.best(2), BAD);
        due("no SITE, ahead of BAD", new NightLevel().best(2), STATE);
    }

    private static void row(NightLevel x, int n, int... deeds) {
        due("how many for " + n, x.plan(n, -1), deeds.length);
        for (int k = 0; k < deeds.length; k++) due("the " + k + "-th for " + n, x.plan(n, k), deeds[k]);
        due("no more for " + n, x.plan(n, deeds.length), NONE);
        due("by far", x.plan(n, MOST), NONE);
    }

    private static void plan() {
        NightLevel x = at("n0,0,1;w10,0;w16,0;w13,0;d0,4;d0,2;d2,3;d0,6;");
        String before = all(x);
        row(x, 0, 2, 3);
        same("nothing changes", all(x), before);
        x.perform(3);
        row(x, 0, 2);
        x.undo();
        x.amount(3, 7);
        row(x, 0, 0, 1, 2);
        x.perform(0);
        row(x, 0, 1, 2);
        row(at(FIRM), 24);
        row(at(FIRM), 0);
        NightLevel order = at("n0,0,1;w10,0;w10,0;w7,0;d0,3;t0,2;d1,1;u0,3;");
        row(order, 0, 3);
        NightLevel turn = at("n0,1,2;w8,2;w12,1;w9,0;t0,4;s0,4;o1,3;");
        row(turn, 0, 1, 0);
        due("NONE", turn.plan(3, -1), NONE);
        due("NONE", turn.plan(3, 0), NONE);
        NightLevel rain = at("n0,9,2;w10,1;w10,0;w10,0;d0,2;d0,3;d0,1;");
        row(rain, 0);
        row(rain, 1, 2);
        row(rain, 2, 2);
        row(rain, 3, 0);
        row(rain, 5, 1);
        row(rain, 7, 1, 2);
        row(rain, 9, 0, 1);
        row(rain, 12, 0, 1, 2);
        due("n -1", rain.plan(-1, 0), BAD);
        due("n 25", rain.plan(25, 0), BAD);
        due("k -2", rain.plan(0, -2), BAD);
        due("k by far", rain.plan(0, LEAST), BAD);
        due("no SITE, ahead of BAD", new NightLevel().plan(25, -2), STATE);
        NightLevel all = at("n0,9,9;w0,0;w60,0;w60,0;d0,20;d0,20;d0,14;d0,3;d0,1;d0,1;d0,1;");
        row(all, 0, 0, 1, 2, 3, 4, 5, 6);
        all.amount(2, 13);
        due("NONE of all rows", all.plan(0, -1), NONE);
        row(at("n0,0,1;w10,0;w10,0;w12,0;u0,1;u0,3;"), 0, 1, 0);
    }

    private static void way(String what, long all, long want, long[] got, int... shares) {
        due(what, all, want);
        for (int j = 0; j < 3; j++) due(what + ", FOOT " + j, got[j], shares[j]);
    }

    private static void boardsAre(NightLevel x, int n, int all, int... shares) {
        way("boards for " + n, x.boards(n, -1), all, new long[] {x.boards(n, 0), x.boards(n, 1), x.boards(n, 2)}, shares);
    }

    private static void boards() {
        NightLevel x = at("n0,1,1;w30,3;w30,1;w30,2;d0,1;");
        String before = all(x);
        boardsAre(x, 1, 2, 2, 0, 0);
        boardsAre(x, 3, 3, 2, 0, 1);
        same("nothing changes", all(x), before);
        boardsAre(at("n0,9,1;w30,3;w30,3;w30,0;d0,1;"), 9, 4, 2, 2, 0);
        boardsAre(at("n0,9,1;w30,4;w30,0;w30,0;d0,1;"), 1, NONE, NONE, NONE, NONE);
        boardsAre(at("n1,9,1;w30,4;w30,0;w30,0;d0,1;"), 1, 3, 3, 0, 0);
        boardsAre(at("n0,9,1;w31,1;w30,0;w30,0;d0,1;"), 1, 0, 0, 0, 0);
        boardsAre(at("n0,9,1;w28,1;w30,0;w30,0;d0,1;"), 1, NONE, NONE, NONE, NONE);
        boardsAre(at("n0,2,1;w30,2;w30,2;w30,5;d0,1;"), 1, 1, 0, 0, 1);
        boardsAre(at("n0,2,1;w30,9;w30,9;w24,0;d0,1;"), 1, 2, 1, 1, 0);
        boardsAre(at("n9,0,1;w31,1;w30,1;w30,0;d0,1;"), 1, 1, 0, 1, 0);
        due("n 0", x.boards(0, -1), BAD);
        due("n 25", x.boards(25, -1), BAD);
        due("j -2", x.boards(1, -2), BAD);
        due("j 3", x.boards(1, 3), BAD);
        due("24", at(FIRM).boards(24, -1), 0);
        due("no SITE, ahead of BAD", new NightLevel().boards(0, 3), STATE);
    }

    private static void liftIs(NightLevel x, int all, int... shares) {
        way("lift", x.lift(-1), all, new long[] {x.lift(0), x.lift(1), x.lift(2)}, shares);
    }

    private static void lift() {
        NightLevel x = at(SOGGY);
        String before = all(x);
        liftIs(x, 6, 0, 6, 0);
        same("nothing changes", all(x), before);
        liftIs(at(FIRM), 0, 0, 0, 0);
        liftIs(at("n0,0,1;w10,0;w16,0;w9,0;d0,1;"), 6 + 7, 6, 0, 7);
        liftIs(at("n9,0,1;w10,0;w10,0;w11,0;d0,1;"), 2, 0, 2, 0);
        liftIs(at("n0,0,1;w10,0;w30,0;w30,0;d0,1;"), 20, 20, 0, 0);
        liftIs(at("n0,0,1;w30,0;w10,0;w30,0;d0,1;"), 20, 0, 20, 0);
        liftIs(at("n0,0,1;w30,0;w30,0;w10,0;d0,1;"), 20, 0, 0, 20);
        liftIs(at("n0,0,1;w10,0;w31,0;w31,0;d0,1;"), NONE, NONE, NONE, NONE);
        liftIs(at("n1,1,1;w10,0;w31,0;w10,0;d0,1;"), 20 + 19, 20, 0, 19);
        liftIs(at("n0,0,1;w0,0;w0,0;w60,0;d0,1;"), NONE, NONE, NONE, NONE);
        NightLevel high = at("n0,0,1;w60,0;w60,0;w60,0;d0,1;");
        for (int i = 0; i < 2; i++) {
            high.jack(0, 20);
            high.jack(1, 19);
            high.jack(2, 20);
        }
        liftIs(high, 1, 0, 1, 0);
        due("-2", x.lift(-2), BAD);
        due("3", x.lift(3), BAD);
        due("no SITE, ahead of BAD", new NightLevel().lift(3), STATE);
    }

    private static void worst() {
        NightLevel x = at("n0,0,2;w20,1;w23,3;w21,0;d0,1;");
        due("now", x.worst(0, 0), 3 + 0);
        due("now", x.worst(0, 1), 0);
        due("not less", x.worst(2, 0), 3);
        due("the first", x.worst(2, 1), 0);
        due("greater", x.worst(5, 0), 3 + 6);
        due("behind", x.worst(5, 1), 5);
        due("the first", x.worst(6, 1), 5);
        NightLevel y = at("n0,0,1;w9,3;w0,0;w4,0;d0,1;");
        due("now, too", y.worst(60, 0), 9);
        due("now, too", y.worst(60, 1), 0);
        due("60", at("n0,0,1;w60,1;w60,1;w60,0;d0,1;").worst(60, 1), 60);
        due("59", at("n0,0,1;w59,1;w59,1;w60,0;d0,1;").worst(60, 1), 59);
        due("n -1", x.worst(-1, 0), BAD);
        due("n 61", x.worst(61, 0), BAD);
        due("what -1", x.worst(0, -1), BAD);
        due("what 2", x.worst(0, 2), BAD);
        due("no SITE, ahead of BAD", new NightLevel().worst(61, 2), STATE);
    }

    /** The calls who (0), feet (1), amounts (2), which are refused likewise. */
    private static int fitting(int call, NightLevel x, int deed, int which, int row, int i, int n) {
        if (call == 0) return x.who(deed, which, row, i, n);
        return call == 1 ? x.feet(deed, which, row, i, n) : x.amounts(deed, which, row, i, n);
    }

    private static NightLevel told(String text, int... items) {
        NightLevel x = at(text);
        x.row(0, 1, items.length);
        for (int i = 0; i < items.length; i++) x.set(0, i, items[i]);
        return x;
    }

    private static void fittingRefused(int call) {
        NightLevel x = told(SOGGY, 1, 2, 3, 4, 5, 6, 7, 8, 9, 10, 11, 12, 13);
        due("DEED -1", fitting(call, x, -1, 0, 0, 0, 1), BAD);
        due("DEED 5", fitting(call, x, 5, 0, 0, 0, 1), BAD);
        due("which -1", fitting(call, x, 0, -1, 0, 0, 1), BAD);
        due("which 2", fitting(call, x, 0, 2, 0, 0, 1), BAD);
        due("ROW -1", fitting(call, x, 0, 0, -1, 0, 1), BAD);
        due("ROW 8", fitting(call, x, 0, 0, 8, 0, 1), BAD);
        due("n 0", fitting(call, x, 0, 0, 0, 0, 0), BAD);
        due("n 13", fitting(call, x, 0, 0, 0, 0, 13), BAD);
        due("BAD ahead of NULL", fitting(call, x, 0, 0, 1, 0, 13), BAD);
        due("NULL", fitting(call, x, 0, 0, 1, -1, 1), NULL);
        due("status", x.status(), 1);
        due("PLACE -1", fitting(call, x, 0, 0, 0, -1, 1), PLACE);
        due("PLACE beyond", fitting(call, x, 0, 0, 0, 2, 12), PLACE);
        due("PLACE by far", fitting(call, x, 0, 0, 0, MOST, 12), PLACE);
        due("status", x.status(), 2);
        due("12", fitting(call, x, 0, 0, 0, 1, 12), 0);
        due("status", x.status(), 0);
        x.perform(0);
        due("STATE behind NULL", fitting(call, x, 0, 0, 1, 0, 1), NULL);
        due("STATE behind PLACE", fitting(call, x, 0, 0, 0, 13, 1), PLACE);
        due("it is DONE", fitting(call, x, 0, 0, 0, 0, 1), STATE);
        due("status stays", x.status(), 2);
        due("no SITE", fitting(call, new NightLevel(), 0, 0, 0, 0, 1), BAD);
    }

    private static void who() {
        String text = "n0,0,2;w20,1;w16,0;w30,0;d1,4;o2,6;";
        String before = all(at(text));
        NightLevel x = told(text, -1, -1, -2, 9, 3);
        due("driven alone", x.who(0, 0, 0, 0, 3), 1 << 1);
        due("and sunk, at first not", x.who(0, 0, 0, 0, 1), 1 << 1);
        due("no one", x.who(0, 0, 0, 3, 1), 0);
        due("wound, from 4 on", x.who(0, 0, 0, 4, 1), 1 << 4);
        same("nothing changes", all(x), before);
        due("overshot", told(text, 0).who(0, 0, 0, 0, 1), 1 << 2 | 1 << 3);
        due("sunk", told(text, 0, 0, 0).who(0, 0, 0, 0, 3), 1 << 3);
        due("overshot", told(text, 0, 0, -1).who(0, 0, 0, 0, 3), 1 << 2);
        due("turned", told(text, -4).who(0, 0, 0, 0, 1), 0);
        due("turned", told(text, -3, -3, -2).who(0, 0, 0, 0, 3), 1 << 5);
        due("by ALONG", told(text, 11).who(0, 1, 0, 0, 1), 1 << 1 | 1 << 2 | 1 << 3 | 1 << 5);
        due("by ALONG, wound", told(text, 9).who(0, 1, 0, 0, 1), 1 << 4);
        due("by ALONG, turned", told(text, 11).who(1, 1, 0, 0, 1), 0);
        due("by ALONG, turned", told(text, 10).who(1, 1, 0, 0, 1), 1 << 5);
        fittingRefused(0);
    }

    private static void feet() {
        String text = "n0,0,2;w20,1;w16,0;w30,0;d1,4;u2,6;";
        due("left", told(text, 7, 7, 6).feet(0, 0, 0, 0, 3), 1);
        due("right", told(text, -1, -1, -2).feet(0, 0, 0, 0, 3), 2);
        due("the nose", told(text, 3, 3, 2).feet(0, 0, 0, 0, 3), 4);
        due("both wheels", told(text, 11).feet(0, 1, 0, 0, 1), 3);
        due("all, if wound", told(text, 3).feet(1, 0, 0, 0, 1), 7);
        due("none", told(text, 4).feet(1, 0, 0, 0, 1), 0);
        fittingRefused(1);
    }

    private static void amounts() {
        String text = "n0,0,2;w20,1;w16,0;w30,0;d1,4;o0,6;t2,6;u1,3;";
        due("1", told(text, 2).amounts(0, 0, 0, 0, 1), 1 << 1);
        due("20", told(text, -17).amounts(0, 0, 0, 0, 1), 1 << 20);
        due("21", told(text, -18).amounts(0, 0, 0, 0, 1), 0);
        due("0", told(text, 3).amounts(0, 0, 0, 0, 1), 0);
        due("two of overshot", told(text, 6, 6, 5).amounts(1, 0, 0, 0, 3), 1 << 4 | 1 << 5);
        due("one of overshot", told(text, 4).amounts(1, 0, 0, 0, 1), 1 << 1);
        due("all of turned, by SIDE", told(text, -3).amounts(2, 0, 0, 0, 1), (1 << 21) - 2);
        due("two of turned, by ALONG", told(text, 11).amounts(2, 1, 0, 0, 1), 1 << 4 | 1 << 5);
        due("one of wound, by ALONG", told(text, 11).amounts(3, 1, 0, 0, 1), 1 << 2);
        NightLevel x = at("n0,0,1;w60,0;w60,0;w60,0;d0,20;");
        x.jack(0, 20);
        x.jack(0, 9);
        x.row(0, 2, 1);
        x.set(0, 0, 39);
        due("cut at 99", x.amounts(0, 0, 0, 0, 1), (1 << 21) - (1 << 10));
        fittingRefused(2);
    }

    private static void chance(String text, int p, int above, int below) {
        NightLevel x = at(text);
        String before = all(x);
        due("above, " + text + " by " + p, x.wrong(p, 0), above);
        due("below, " + text + " by " + p, x.wrong(p, 1), below);
        same("nothing changes", all(x), before);
    }

    private static void wrong() {
        chance(FIRM, 0, 0, 1);
        chance(FIRM, 10, 1, 1);
        chance(FIRM, 4, 2, 5);
        chance("n0,9,1;w5,0;w5,0;w5,0;d0,1;d1,1;", 3, 29, 50);
        chance("n0,9,1;w5,0;w5,0;w5,0;d0,1;d1,1;", 1, 41, 50);
        chance("n0,9,1;w5,0;w6,0;w5,0;t0,1;d0,1;", 5, 1, 4);
        chance("n0,9,1;w5,0;w6,0;w5,0;d0,1;t0,1;", 5, 1, 2);
        chance("n0,0,1;w0,0;w60,0;w0,0;d0,1;d0,1;d0,1;d0,1;d0,1;d0,1;d0,1;", 5, 0, 1);
        chance("n7,9,1;w0,0;w0,0;w0,0;d0,1;d0,1;d0,1;d0,1;d0,1;d0,1;d0,1;", 3, 1, 1);
        chance("n0,0,1;w0,0;w0,0;w0,0;d0,1;d0,1;d0,1;d0,1;d0,1;d0,1;d0,1;", 3, 2187, 10000000);
        NightLevel x = at("n0,9,1;w5,0;w5,0;w5,0;d0,1;d1,1;");
        x.perform(0);
        due("one is DONE", x.wrong(3, 0), 7);
        due("one is DONE", x.wrong(3, 1), 10);
        x.perform(1);
        due("all are", x.wrong(3, 0), 1);
        due("all are", x.wrong(3, 1), 1);
        due("p -1", x.wrong(-1, 0), BAD);
        due("p 11", x.wrong(11, 0), BAD);
        due("what -1", x.wrong(0, -1), BAD);
        due("what 2", x.wrong(0, 2), BAD);
        due("no SITE, ahead of BAD", new NightLevel().wrong(11, 2), STATE);
    }

    private static void drawn() {
        // X of SEED 1: 16807, 282475249, 1622650073: by two 1, 1, 1; 984943658: 0.
        NightLevel x = at("n0,9,2;w20,1;w20,0;w20,0;d0,4;d0,2;");
        String before = all(x);
        due("none", x.drawn(0, 1, 0), 0);
        due("none", x.drawn(0, 1, 1), 0);
        due("DEED 1, rain", x.drawn(1, 1, 0), 1);
        due("not LEVEL", x.drawn(1, 1, 1), 0);
        due("no rain", x.drawn(2, 1, 0), 1);
        due("rain", x.drawn(3, 1, 0), 0);
        due("LEVEL once", x.drawn(3, 1, 1), 1);
        due("DEED 0", x.drawn(4, 1, 0), 4 + 2);
        due("LEVEL once yet", x.drawn(4, 1, 1), 1);
        // SIDE is 4 less one for each rain behind, 0 in HOURS 10 and 11.
        due("LEVEL thrice", x.drawn(12, 1, 1), 3);
        same("nothing changes", all(x), before);
        x.perform(1);
        due("it is DONE", x.drawn(1, 1, 0), 1 + 0);
        due("the greatest SEED", at(FIRM).drawn(60, 999999, 0), 1);
        due("n -1", x.drawn(-1, 1, 0), BAD);
        due("n 61", x.drawn(61, 1, 0), BAD);
        due("SEED 0", x.drawn(1, 0, 0), BAD);
        due("SEED 1000000", x.drawn(1, 1000000, 0), BAD);
        due("what -1", x.drawn(1, 1, -1), BAD);
        due("what 2", x.drawn(1, 1, 2), BAD);
        due("no SITE, ahead of BAD", new NightLevel().drawn(61, 0, 2), STATE);
    }

    private static void image() {
        NightLevel x = at(SOGGY);
        x.hours(5);
        x.perform(1);
        String kept = all(x);
        due("kept", x.image(1), 1);
        due("ACTS stay", x.count(6), 6);
        same("the SITE stays", all(x), kept);
        x.board(0);
        x.amount(0, 1);
        x.restore(1);
        same("as it was", all(x), kept);
        x.hours(1);
        String other = all(x);
        due("in place", x.image(1), 1);
        x.hours(1);
        x.restore(1);
        same("the latest", all(x), other);
        due("-1", x.image(-1), BAD);
        due("2", x.image(2), BAD);
        due("no SITE", new NightLevel().image(0), STATE);
        due("BAD ahead of no SITE", new NightLevel().image(2), BAD);
    }

    private static void restore() {
        NightLevel x = at(MIXED);
        String mixed = all(x);
        x.image(0);
        tell(x, SOGGY);
        x.site();
        x.hours(7);
        String soggy = all(x);
        x.image(1);
        x.jack(0, 1);
        due("0", x.restore(0), 1);
        same("MIXED", all(x), mixed);
        due("no ACT can be undone", x.count(6), 0);
        due("none", x.undo(), STATE);
        x.perform(0);
        due("1", x.restore(1), 1);
        same("SOGGY", all(x), soggy);
        due("0 again", x.restore(0), 1);
        same("MIXED again", all(x), mixed);
        due("-1", x.restore(-1), BAD);
        due("2", x.restore(2), BAD);
        NightLevel y = at(FIRM);
        y.image(1);
        due("none was kept", y.restore(0), STATE);
        y.jack(0, 1);
        y.restore(0);
        due("ACTS stay", y.count(6), 1);
    }

    private static void kind() {
        NightLevel x = at(MIXED);
        int[] kinds = {1, 2, 3, 4, 5, 1};
        for (int one = 0; one < 6; one++) due("DEED " + one, x.kind(one), kinds[one]);
        x.perform(4);
        due("DONE", x.kind(4), 5);
        due("-1", x.kind(-1), BAD);
        due("6", x.kind(6), BAD);
        due("no SITE", new NightLevel().kind(0), BAD);
    }

    private static void as() {
        NightLevel x = at(MIXED);
        String[] are = {"01", "012", "013", "04", "045", "01"};
        for (int one = 0; one < 6; one++) {
            for (int kind = 0; kind < 6; kind++) {
                boolean isOne = are[one].indexOf('0' + kind) >= 0;
                due(one + " as " + kind, x.as(one, kind), isOne ? one : KIND);
                due("status", x.status(), isOne ? 0 : 3);
            }
        }
        due("KIND -1", x.as(0, -1), BAD);
        due("KIND 6", x.as(0, 6), BAD);
        due("-1", x.as(-1, 0), BAD);
        due("6", x.as(6, 0), BAD);
        due("no SITE", new NightLevel().as(0, 0), BAD);
    }

    private static void asked(NightLevel x, int one, int what, int answer, int... bodies) {
        due("ask " + what + " of " + one, x.ask(one, what), answer);
        for (int i = 0; i < bodies.length; i++) due("trace " + i, x.trace(i), bodies[i]);
        due("no more", x.trace(bodies.length), NONE);
    }

    private static void ask() {
        NightLevel x = at(MIXED);
        asked(x, 5, 0, 3 + 5 + 9, 11, 10, 21, 20);
        asked(x, 5, 1, 5 + 9, 21, 20);
        asked(x, 1, 0, -(9 + 2 * (1 + 10)), 12, 11, 10, 24, 21, 20);
        asked(x, 1, 1, 2 * (1 + 10), 24, 21, 20);
        asked(x, 2, 0, 4 + 2 + 16 - 1000, 11, 10, 22, 21, 20);
        asked(x, 2, 1, 2 + 16 - 1000, 22, 21, 20);
        asked(x, 3, 0, 5 - 100, 13, 10);
        asked(x, 3, 1, 3 - (5 - 100), 23, 20, 13, 10);
        asked(x, 4, 0, 2 * (6 - 100), 14, 13, 10);
        asked(x, 4, 1, 4 - 2 * (6 - 100), 23, 20, 14, 13, 10);
        x.jack(0, 7);
        x.amount(0, 20);
        asked(x, 0, 0, 20 + 17, 11, 10, 21, 20);
        due("what -1", x.ask(0, -1), BAD);
        due("what 2", x.ask(0, 2), BAD);
        due("-1", x.ask(-1, 0), BAD);
        due("6", x.ask(6, 0), BAD);
        due("THE TRACE stays", x.trace(3), 20);
        due("no SITE", new NightLevel().ask(0, 0), BAD);
    }

    private static void trace() {
        NightLevel x = at(MIXED);
        due("empty", x.trace(0), NONE);
        x.ask(4, 1);
        due("0", x.trace(0), 23);
        due("4", x.trace(4), 10);
        due("5", x.trace(5), NONE);
        due("-1", x.trace(-1), NONE);
        due("by far", x.trace(MOST), NONE);
        due("by far", x.trace(LEAST), NONE);
        x.ask(3, 0);
        due("anew", x.trace(0), 13);
        due("anew", x.trace(2), NONE);
    }

    private static void count() {
        NightLevel x = at(MIXED);
        x.row(4, 0, 0);
        x.row(5, 0, 3);
        x.row(5, 1, 3);
        x.hours(2);
        x.perform(0);
        x.perform(3);
        tell(x, "nnn");
        int[] want = {2, 6, 9, 2, 1 + 3, 15 + 16 + 12, 4, 3};
        for (int what = 0; what < 8; what++) due("count(" + what + ")", x.count(what), want[what]);
        due("-1", x.count(-1), BAD);
        due("8", x.count(8), BAD);
    }

    private static void status() {
        NightLevel x = at(SOGGY);
        x.set(0, 0, 0);
        due("NULL", x.status(), 1);
        x.row(9, 0, 0);
        x.set(9, 0, 0);
        x.copy(9, 0, 0, 0, 0);
        x.drop(9);
        x.who(0, 0, 9, 0, 1);
        x.as(0, 9);
        due("BAD does not count", x.status(), 1);
        x.hours(1);
        x.count(0);
        x.feed('n');
        x.site();
        due("calls without a ROW do not count", x.status(), 1);
        x.row(0, 0, 2);
        due("row had none", x.status(), 0);
        x.set(0, 2, 0);
        due("PLACE", x.status(), 2);
        x.set(0, 1, 0);
        due("set had none", x.status(), 0);
        x.as(0, 4);
        due("KIND", x.status(), 3);
        x.who(0, 0, 0, 0, 1);
        due("who had none", x.status(), 0);
        x.row(0, 0, -1);
        due("SIZE", x.status(), 4);
        x.copy(0, 0, 0, 1, 1);
        due("copy had none", x.status(), 0);
        x.row(1, 1, 2);
        x.copy(0, 0, 1, 0, 1);
        due("STORE", x.status(), 5);
        x.drop(1);
        due("drop had none", x.status(), 0);
        x.copy(0, 0, 1, 0, 1);
        due("NULL", x.status(), 1);
        x.as(0, 3);
        due("as had none", x.status(), 0);
        x.drop(1);
        x.perform(0);
        x.amounts(0, 0, 0, 0, 1);
        x.feet(0, 0, 0, 0, 1);
        due("STATE does not count", x.status(), 1);
    }

    private static void keep(int number) {
        switch (number) {
            case 1: aNewObject(); break;
            case 2: row(); break;
            case 3: set(); break;
            case 4: copy(); break;
            case 5: drop(); break;
            case 6: feed(); break;
            case 7: site(); break;
            case 8: fault(); break;
            case 9: undo(); break;
            case 10: hours(); break;
            case 11: perform(); break;
            case 12: board(); break;
            case 13: amount(); break;
            case 14: jack(); break;
            case 15: foot(); break;
            case 16: deed(); break;
            case 17: lean(); break;
            case 18: ahead(); break;
            case 19: leanAhead(); break;
            case 20: lasts(); break;
            default: keepForetold(number); break;
        }
    }

    private static void keepForetold(int number) {
        switch (number) {
            case 21: first(); break;
            case 22: attempt(); break;
            case 23: best(); break;
            case 24: plan(); break;
            case 25: boards(); break;
            case 26: lift(); break;
            case 27: worst(); break;
            case 28: who(); break;
            case 29: feet(); break;
            case 30: amounts(); break;
            case 31: wrong(); break;
            case 32: drawn(); break;
            case 33: image(); break;
            case 34: restore(); break;
            case 35: kind(); break;
            case 36: as(); break;
            case 37: ask(); break;
            case 38: trace(); break;
            case 39: count(); break;
            case 40: status(); break;
            default: due("a test of it", 0, 1); break;
        }
    }

    public static void main(String[] args) {
        for (promise = 1; promise <= 40; promise++) keep(promise);
        System.out.println(wrong == 0 ? "all promises are kept" : wrong + " answers are not as due");
        if (wrong != 0) System.exit(1);
    }
}
