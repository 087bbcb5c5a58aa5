import java.util.ArrayList;
import java.util.List;
import java.util.function.Supplier;

/** What the tests by sentences share: answers held against due ones, sites, and whether anything changed. */
abstract class Probe {
    static final int NONE = -1000000, BAD = -1000001, STATE = -1000002, FULL = -1000003;
    static final int NULL = -1000011, PLACE = -1000012, KIND = -1000013, SIZE = -1000014, STORE = -1000015;
    static final int LEAST = Integer.MIN_VALUE, MOST = Integer.MAX_VALUE;

    /** LEVEL on ground that holds; its DEED lifts FOOT 0, so that SIDE, were it DONE, is its AMOUNT. */
    static final String FIRM = "n0,0,1;w5,0;w5,0;w5,0;d0,1;";
    /** All five KINDS, in their order; SIDE -6, MIDDLE 13, ALONG -4. */
    static final String FIVE = "n1,2,3;w10,1;w16,0;w9,2;d0,6;o0,9;s1,4;u2,5;t0,6;";
    /** As many DEEDS as there is room for. */
    static final String SEVEN = "n2,3,4;w30,2;w22,1;w31,3;s1,7;o2,8;u0,6;d0,3;t1,9;d1,2;o0,5;";

    /** A call on an object, with its answer. */
    interface Call {
        long on(NightLevel x);
    }

    private static final List<String> wrong = new ArrayList<>();

    static List<String> takeWrong() {
        List<String> all = new ArrayList<>(wrong);
        wrong.clear();
        return all;
    }

    static void due(String what, long got, long want) {
        if (got != want) wrong.add(what + " answered " + got + ", due is " + want);
    }

    static void same(String what, String got, String want) {
        if (!got.equals(want)) wrong.add(what + " is " + got + ", due is " + want);
    }

    /** Feeds a text and reads it. */
    static int told(NightLevel x, String text) {
        for (int i = 0; i < text.length(); i++) x.feed(text.charAt(i));
        return x.site();
    }

    static NightLevel at(String text) {
        NightLevel x = new NightLevel();
        if (told(x, text) < 1) wrong.add(text + " is not read");
        return x;
    }

    static NightLevel nowhere() {
        return new NightLevel();
    }

    /** A ROW of shorts, ROW 0, with these ITEMS, at a site. */
    static NightLevel withRow(String text, int... items) {
        NightLevel x = at(text);
        x.row(0, 1, items.length);
        for (int i = 0; i < items.length; i++) x.set(0, i, items[i]);
        return x;
    }

    /** An ITEM from 1 to 20 of a ROW, at FIRM: by the AMOUNT that would give it as SIDE; 32 for any other. */
    static int item(NightLevel x, int row, int i) {
        return Integer.numberOfTrailingZeros(x.amounts(0, 0, row, i, 1));
    }

    static String heights(NightLevel x) {
        return x.foot(0, 0) + " " + x.foot(1, 0) + " " + x.foot(2, 0);
    }

    static String softs(NightLevel x) {
        return x.foot(0, 1) + " " + x.foot(1, 1) + " " + x.foot(2, 1);
    }

    /** What ACTS can change. */
    static String night(NightLevel x) {
        StringBuilder s = new StringBuilder(heights(x) + ", " + softs(x) + ", done " + x.count(2) + ", hour " + x.count(3));
        int deeds = x.count(1);
        for (int deed = 0; deed < deeds; deed++) s.append(' ').append(x.deed(deed, 1));
        return s.toString();
    }

    /** What a text tells beside that: EGG, BED and RAIN by what they do. */
    static String law(NightLevel x) {
        StringBuilder s = new StringBuilder();
        int deeds = x.count(1);
        for (int deed = 0; deed < deeds; deed++) s.append(x.kind(deed)).append(x.deed(deed, 0)).append(' ');
        s.append(x.lasts()).append(' ').append(x.lift(-1)).append(' ').append(x.lift(1));
        for (int n = 1; n <= 5; n++) s.append(' ').append(x.ahead(2, n));
        return s.toString();
    }

    /** An object of which everything has been used: rows, tape, fault, acts, images, trace, status 1. */
    static NightLevel busy() {
        NightLevel x = at(SEVEN);
        told(x, "n0,0,0;");
        x.row(0, 0, 4);
        x.row(1, 1, 3);
        x.row(2, 2, 2);
        x.row(3, 1, 0);
        x.set(0, 0, 7);
        x.set(0, 1, 9);
        x.set(1, 0, 11);
        x.set(2, 1, 20);
        x.jack(1, 2);
        x.image(0);
        x.hours(2);
        x.perform(1);
        x.image(1);
        x.board(0);
        x.board(0);
        x.amount(3, 12);
        x.perform(3);
        x.ask(1, 0);
        for (char c : "n0,0,1;w5,0".toCharArray()) x.feed(c);
        x.drop(7);
        return x;
    }

    /** All that can be seen of an object but its status; the object is used up by it. */
    static List<String> allOf(NightLevel x) {
        List<String> seen = new ArrayList<>();
        for (int what = 0; what < 8; what++) seen.add("count " + what + ": " + x.count(what));
        seen.add("fault: " + x.fault());
        for (int i = 0; i < 7; i++) seen.add("trace " + i + ": " + x.trace(i));
        seen.add("site: " + night(x) + " " + law(x));
        // Ten of them at most, so that no object is called more often than the document allows.
        for (int left = Math.min(10, x.count(6)); left > 0; left--) seen.add("undo: " + x.undo() + " " + night(x));
        for (int k = 0; k < 2; k++) seen.add("image " + k + ": " + x.restore(k) + " " + night(x) + " " + law(x));
        seen.add("tape: " + told(x, ";w5,0;w5,0;d0,1;"));
        for (int row = 0; row < 8; row++) {
            StringBuilder s = new StringBuilder("row " + row + ":");
            for (int i = 0; i < 5; i++) s.append(' ').append(x.amounts(0, 0, row, i, 1));
            seen.add(s + " lane " + x.set(row, 0, 40000) + " size " + x.drop(row));
        }
        return seen;
    }

    private static void alike(List<String> got, List<String> want) {
        for (int i = 0; i < want.size(); i++) {
            if (i < got.size()) same("what should stay", got.get(i), want.get(i));
        }
        due("how much there is to see", got.size(), want.size());
    }

    /** These calls, on an object that is made so, change nothing but the status. */
    static void quiet(Supplier<NightLevel> made, Call... calls) {
        NightLevel x = made.get();
        for (Call call : calls) call.on(x);
        alike(allOf(x), allOf(made.get()));
    }

    /** These calls are refused (BAD, STATE, FULL), and change nothing, nor the status. */
    static void refused(Supplier<NightLevel> made, long answer, Call... calls) {
        NightLevel x = made.get();
        int status = x.status();
        for (int i = 0; i < calls.length; i++) due("call " + i, calls[i].on(x), answer);
        due("status", x.status(), status);
        alike(allOf(x), allOf(made.get()));
    }

    /** These calls find something, and change nothing but the status, which tells it. */
    static void found(Supplier<NightLevel> made, int finding, Call... calls) {
        NightLevel x = made.get();
        for (int i = 0; i < calls.length; i++) {
            due("call " + i, calls[i].on(x), finding);
            due("status behind call " + i, x.status(), -1000010 - finding);
        }
        alike(allOf(x), allOf(made.get()));
    }
}
