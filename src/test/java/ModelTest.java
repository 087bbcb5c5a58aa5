import java.math.BigInteger;
import java.util.ArrayDeque;
import java.util.ArrayList;
import java.util.Arrays;
import java.util.Deque;
import java.util.List;
import java.util.Random;

/**
 * Random runs of calls, answered by NightLevel and by a model that does all the long way: HOUR by HOUR, way by
 * way, row by row. The seeds are fixed, so a run that fails, fails again.
 */
public final class ModelTest {
    private static final int RUNS = 3000;
    private static final int CALLS = 512;

    public static void main(String[] args) {
        int wrong = 0;
        for (int run = 0; run < RUNS && wrong < 5; run++) {
            wrong += new Run(run).play() ? 0 : 1;
        }
        System.out.println(wrong == 0 ? "the model agrees" : "the model does not agree");
        if (wrong != 0) System.exit(1);
    }

    /** One object with its model, and what they are asked. */
    private static final class Run {
        final int number;
        final Random random;
        final NightLevel level = new NightLevel();
        final Model model = new Model();
        final List<String> calls = new ArrayList<>();

        Run(int number) {
            this.number = number;
            this.random = new Random(number * 7919L + 13);
        }

        boolean play() {
            while (calls.size() < CALLS) {
                if (random.nextInt(40) == 0 || model.now == null && random.nextInt(3) != 0) {
                    if (!anyText()) return false;
                } else if (!anyCall()) {
                    return false;
                }
            }
            return true;
        }

        boolean anyText() {
            String text = random.nextInt(3) == 0 ? spoilt(text()) : text();
            for (int i = 0; i < text.length(); i++) {
                if (!agree("feed", text.charAt(i))) return false;
            }
            return agree("site");
        }

        int upTo(int n) {
            return random.nextInt(n + 1);
        }

        int from(int least, int most) {
            return least + random.nextInt(most - least + 1);
        }

        int odd(int usual) {
            int[] odds = {-1, -2, 61, 100, Integer.MIN_VALUE, Integer.MAX_VALUE, usual + 1, usual - 1};
            return random.nextInt(25) == 0 ? odds[random.nextInt(odds.length)] : usual;
        }

        String text() {
            boolean isFlat = random.nextInt(3) == 0;
            int base = isFlat ? from(0, 52) : 0;
            StringBuilder s = new StringBuilder();
            s.append('n').append(upTo(9)).append(',').append(upTo(9)).append(',').append(from(1, 9)).append(';');
            for (int foot = 0; foot < 3; foot++) {
                s.append('w').append(isFlat ? base + upTo(8) : upTo(60)).append(',');
                s.append(random.nextBoolean() ? upTo(2) : upTo(9)).append(';');
            }
            int deeds = from(1, 7);
            for (int deed = 0; deed < deeds; deed++) {
                s.append("dosut".charAt(random.nextInt(5))).append(upTo(2)).append(',');
                s.append(from(1, 20)).append(';');
            }
            return s.toString();
        }

        String spoilt(String text) {
            StringBuilder s = new StringBuilder(text);
            int at = random.nextInt(s.length());
            String signs = "nwdosutaz0123456789,; .A";
            char sign = signs.charAt(random.nextInt(signs.length()));
            switch (random.nextInt(8)) {
                case 0: s.setLength(at); break;
                case 1: s.insert(at, sign); break;
                case 2: s.deleteCharAt(at); break;
                case 3: s.append("d0,1;d0,1;d0,1;d0,1;d0,1;d0,1;d0,1;"); break;
                case 4: s.insert(s.indexOf("w"), "w1,1;"); break;
                case 5: s.append(sign); break;
                case 6: s.append("w1,1;"); break;
                default: s.setCharAt(at, sign); break;
            }
            return s.toString();
        }

        boolean anyCall() {
            switch (random.nextInt(42)) {
                case 0: return agree("row", odd(upTo(2)), odd(upTo(2)), random.nextInt(12) == 0 ? from(-1, 41) : from(1, 12));
                case 1: return agree("set", odd(upTo(2)), odd(upTo(12)), random.nextInt(3) == 0 ? random.nextInt() : from(-20, 20));
                case 2: return agree("copy", odd(upTo(2)), odd(upTo(6)), odd(upTo(2)), odd(upTo(6)), odd(upTo(6)));
                case 3: return random.nextInt(6) != 0 || agree("drop", odd(upTo(2)));
                case 4: return random.nextInt(6) != 0 || agree("feed", odd(from(-1, 256)));
                case 5: return agree("fault");
                case 6: case 7: return agree("undo");
                case 8: return agree("hours", random.nextInt(6) == 0 ? odd(from(0, 25)) : from(1, 4));
                case 9: case 10: return agree("perform", odd(upTo(7)));
                case 11: return agree("board", odd(upTo(2)));
                case 12: return agree("amount", odd(upTo(7)), odd(from(0, 21)));
                case 13: return agree("jack", odd(upTo(2)), odd(from(0, 21)));
                case 14: return agree("foot", odd(upTo(2)), odd(upTo(1)));
                case 15: return agree("deed", odd(upTo(7)), odd(upTo(2)));
                case 16: return agree("lean", odd(upTo(5)));
                case 17: return agree("ahead", odd(upTo(2)), odd(upTo(60)));
                case 18: return agree("leanAhead", odd(upTo(60)), odd(upTo(1)));
                case 19: return agree("lasts");
                case 20: return agree("first");
                case 21: return agree("attempt", odd(upTo(7)));
                case 22: return agree("best", odd(upTo(1)));
                case 23: return agree("plan", odd(upTo(24)), odd(from(-1, 3)));
                case 24: return agree("boards", odd(from(0, 25)), odd(from(-1, 2)));
                case 25: return agree("lift", odd(from(-1, 2)));
                case 26: return agree("worst", odd(upTo(60)), odd(upTo(1)));
                case 27: case 28: case 29: return tellRow() && askRow();
                case 30: return askRow();
                case 31: return agree("wrong", odd(upTo(10)), odd(upTo(1)));
                case 32: return agree("drawn", odd(upTo(60)), odd(from(1, 999999)), odd(upTo(1)));
                case 33: return agree("image", odd(upTo(1)));
                case 34: return random.nextInt(4) != 0 || agree("restore", odd(upTo(1)));
                case 35: return agree("kind", odd(upTo(7)));
                case 36: return agree("as", odd(upTo(7)), odd(upTo(5)));
                case 37: return agree("ask", odd(upTo(7)), odd(upTo(1)));
                case 38: return agree("trace", odd(from(-1, 7)));
                case 39: case 40: return agree("count", odd(upTo(7)));
                default: return agree("status");
            }
        }

        /** Writes a row that some DEED, KIND, FOOT or AMOUNT really gives, so that answers are not all empty. */
        boolean tellRow() {
            if (model.now == null) return true;
            Model.Night night = model.now.copy();
            Model.Deed deed = night.deeds.get(random.nextInt(night.deeds.size()));
            switch (random.nextInt(4)) {
                case 0: deed.kind = from(1, 5); break;
                case 1: deed.foot = upTo(2); break;
                case 2: deed.amount = from(1, 20); break;
                default: break;
            }
            night.enact(deed);
            int n = from(1, 4);
            int which = upTo(1);
            if (!agree("row", 0, upTo(2), n + 1)) return false;
            for (int i = 0; i < n; i++) {
                night.passHour();
                if (!agree("set", 0, i, which == 0 ? night.side() : night.along())) return false;
            }
            return true;
        }

        boolean askRow() {
            String[] names = {"who", "feet", "amounts"};
            int which = odd(upTo(1));
            int n = odd(from(0, 4));
            for (int deed = -1; deed < 8; deed += from(1, 3)) {
                if (!agree(names[random.nextInt(3)], deed, which, odd(0), odd(0), n)) return false;
            }
            return true;
        }

        boolean agree(String name, int... a) {
            // What later calls answer is free.
            if (calls.size() >= CALLS) return true;
            calls.add(name + Arrays.toString(a));
            long want = model.answer(name, a);
            long got;
            try {
                got = answer(name, a);
            } catch (RuntimeException thrown) {
                report("threw " + thrown, want);
                return false;
            }
            if (got == want) return true;
            report("answered " + got, want);
            return false;
        }

        void report(String what, long want) {
            System.out.println("run " + number + ", call " + calls.size() + ": " + calls.get(calls.size() - 1)
                + " " + what + ", the model says " + want);
            System.out.println("  behind " + calls.subList(Math.max(0, calls.size() - 60), calls.size()));
        }

        long answer(String name, int[] a) {
            switch (name) {
                case "row": return level.row(a[0], a[1], a[2]);
                case "set": return level.set(a[0], a[1], a[2]);
                case "copy": return level.copy(a[0], a[1], a[2], a[3], a[4]);
                case "drop": return level.drop(a[0]);
                case "feed": return level.feed(a[0]);
                case "site": return level.site();
                case "fault": return level.fault();
                case "undo": return level.undo();
                case "hours": return level.hours(a[0]);
                case "perform": return level.perform(a[0]);
                case "board": return level.board(a[0]);
                case "amount": return level.amount(a[0], a[1]);
                case "jack": return level.jack(a[0], a[1]);
                case "foot": return level.foot(a[0], a[1]);
                case "deed": return level.deed(a[0], a[1]);
                case "lean": return level.lean(a[0]);
                case "ahead": return level.ahead(a[0], a[1]);
                case "leanAhead": return level.leanAhead(a[0], a[1]);
                case "lasts": return level.lasts();
                case "first": return level.first();
                case "attempt": return level.attempt(a[0]);
                case "best": return level.best(a[0]);
                case "plan": return level.plan(a[0], a[1]);
                case "boards": return level.boards(a[0], a[1]);
                case "lift": return level.lift(a[0]);
                case "worst": return level.worst(a[0], a[1]);
                case "who": return level.who(a[0], a[1], a[2], a[3], a[4]);
                case "feet": return level.feet(a[0], a[1], a[2], a[3], a[4]);
                case "amounts": return level.amounts(a[0], a[1], a[2], a[3], a[4]);
                case "wrong": return level.wrong(a[0], a[1]);
                case "drawn": return level.drawn(a[0], a[1], a[2]);
                case "image": return level.image(a[0]);
                case "restore": return level.restore(a[0]);
                case "kind": return level.kind(a[0]);
                case "as": return level.as(a[0], a[1]);
                case "ask": return level.ask(a[0], a[1]);
                case "trace": return level.trace(a[0]);
                case "count": return level.count(a[0]);
                case "status": return level.status();
                default: throw new IllegalStateException(name);
            }
        }
    }

    /** The document once more, in the longest way. */
    private static final class Model {
        static final int NONE = -1000000, BAD = -1000001, STATE = -1000002, FULL = -1000003;

        final Number[][] rows = new Number[8][];
        final int[] lanes = new int[8];
        final StringBuilder tape = new StringBuilder();
        final Deque<Night> past = new ArrayDeque<>();
        final Night[] images = new Night[2];
        final List<Integer> trace = new ArrayList<>();
        Night now;
        int fault;
        int status;

        static final class Deed {
            int kind;
            int foot;
            int amount;
            boolean isDone;
            int number;

            Deed copy() {
                Deed other = new Deed();
                other.kind = kind;
                other.foot = foot;
                other.amount = amount;
                other.isDone = isDone;
                other.number = number;
                return other;
            }
        }

        static final class Night {
            int egg;
            int bed;
            int rain;
            int hour;
            int[] height = new int[3];
            int[] soft = new int[3];
            List<Deed> deeds = new ArrayList<>();

            Night copy() {
                Night other = new Night();
                other.egg = egg;
                other.bed = bed;
                other.rain = rain;
                other.hour = hour;
                other.height = height.clone();
                other.soft = soft.clone();
                for (Deed deed : deeds) other.deeds.add(deed.copy());
                return other;
            }

            int side() {
                return height[0] - height[1];
            }

            int middle() {
                return (height[0] + height[1]) / 2;
            }

            int along() {
                return height[2] - middle();
            }

            int awry() {
                return Math.abs(side()) + Math.abs(along());
            }

            boolean isLevel() {
                return Math.abs(side()) <= egg && Math.abs(along()) <= bed;
            }

            int doneBits() {
                int bits = 0;
                for (Deed deed : deeds) if (deed.isDone) bits |= 1 << deed.number;
                return bits;
            }

            List<Deed> open() {
                List<Deed> left = new ArrayList<>();
                for (Deed deed : deeds) if (!deed.isDone) left.add(deed);
                return left;
            }

            void move(int foot, int by) {
                height[foot] += by;
                if (height[foot] < 0) height[foot] = 0;
                if (height[foot] > 99) height[foot] = 99;
            }

            void enact(Deed deed) {
                deed.isDone = true;
                if (deed.kind == 1 || deed.kind == 3) move(deed.foot, deed.amount);
                if (deed.kind == 3 && soft[deed.foot] < 9) soft[deed.foot]++;
                if (deed.kind == 2) move(deed.foot, deed.amount / 2 + 1);
                if (deed.kind == 5) {
                    height = new int[] {height[1], height[0], height[2]};
                    soft = new int[] {soft[1], soft[0], soft[2]};
                }
                if (deed.kind >= 4) {
                    int by = deed.kind == 4 ? deed.amount : deed.amount / 2;
                    if (along() < 0) move(2, by); else move(2, -by);
                }
            }

            void passHour() {
                if (hour % rain == 0) for (int foot = 0; foot < 3; foot++) move(foot, -soft[foot]);
                hour++;
            }

            Night behind(int n) {
                Night other = copy();
                for (int i = 0; i < n; i++) other.passHour();
                return other;
            }
        }

        long answer(String name, int[] a) {
            String byRow = " row set copy drop ";
            if (byRow.contains(" " + name + " ")) return withStatus(rowCall(name, a));
            if (name.equals("as")) return withStatus(as(a[0], a[1]));
            if (name.equals("who") || name.equals("feet") || name.equals("amounts")) return withStatus(fitting(name, a));
            switch (name) {
                case "feed":
                    if (a[0] < 0 || a[0] > 255) return BAD;
                    if (tape.length() == 120) return FULL;
                    return tape.append((char) a[0]).length();
                case "site": return site();
                case "fault": return fault;
                case "status": return status;
                case "count": return count(a[0]);
                case "trace": return a[0] >= 0 && a[0] < trace.size() ? trace.get(a[0]) : NONE;
                case "image":
                    if (a[0] != 0 && a[0] != 1) return BAD;
                    if (now == null) return STATE;
                    images[a[0]] = now.copy();
                    return 1;
                case "restore":
                    if (a[0] != 0 && a[0] != 1) return BAD;
                    if (images[a[0]] == null) return STATE;
                    now = images[a[0]].copy();
                    past.clear();
                    return 1;
                case "undo":
                    if (past.isEmpty()) return STATE;
                    now = past.pop();
                    return past.size();
                default: return (" perform amount deed attempt kind ask ".contains(" " + name + " "))
                    ? ofDeed(name, a) : now == null ? STATE : ofSite(name, a);
            }
        }

        long withStatus(long answer) {
            if (answer != BAD && answer != STATE && answer != FULL) {
                status = answer <= -1000011 && answer >= -1000015 ? (int) (-1000010 - answer) : 0;
            }
            return answer;
        }

        static boolean in(int n, int least, int most) {
            return n >= least && n <= most;
        }

        void act() {
            past.push(now.copy());
            if (past.size() > 24) past.removeLast();
        }

        boolean holds(int row, int i, int n) {
            return i >= 0 && n >= 0 && (long) i + n <= rows[row].length;
        }

        long rowCall(String name, int[] a) {
            if (!in(a[0], 0, 7)) return BAD;
            switch (name) {
                case "row":
                    if (!in(a[1], 0, 2) || a[2] > 40) return BAD;
                    if (a[2] < 0) return -1000014;
                    rows[a[0]] = new Number[a[2]];
                    Arrays.fill(rows[a[0]], 0);
                    lanes[a[0]] = a[1];
                    return a[2];
                case "set":
                    if (rows[a[0]] == null) return -1000011;
                    if (!holds(a[0], a[1], 1)) return -1000012;
                    Number v = lanes[a[0]] == 0 ? (Number) (byte) a[2] : lanes[a[0]] == 1 ? (Number) (short) a[2] : (Number) a[2];
                    rows[a[0]][a[1]] = v;
                    return v.intValue();
                case "copy":
                    if (!in(a[2], 0, 7)) return BAD;
                    if (rows[a[0]] == null || rows[a[2]] == null) return -1000011;
                    if (lanes[a[0]] != lanes[a[2]]) return -1000015;
                    if (!holds(a[0], a[1], a[4]) || !holds(a[2], a[3], a[4])) return -1000012;
                    Number[] ahead = rows[a[0]].clone();
                    for (int i = 0; i < a[4]; i++) rows[a[2]][a[3] + i] = ahead[a[1] + i];
                    return a[4];
                default:
                    if (rows[a[0]] == null) return -1000011;
                    int had = rows[a[0]].length;
                    rows[a[0]] = null;
                    return had;
            }
        }

        /** By a text of TOKENS, one sign each, that a law of what may follow is held against. */
        long site() {
            String text = tape.toString();
            tape.setLength(0);
            String law = "n#,#,#;";
            int[][] limits = {{0, 9}, {0, 9}, {1, 9}};
            String foot = "w#,#;";
            int[][] footLimits = {{0, 60}, {0, 9}};
            int[][] deedLimits = {{0, 2}, {1, 20}};
            Night read = new Night();
            int at = 0;
            for (int part = 0; ; part++) {
                boolean isDeed = part >= 4;
                if (part > 4 && at == text.length()) break;
                String form = part == 0 ? law : isDeed ? "*#,#;" : foot;
                int[][] bounds = part == 0 ? limits : isDeed ? deedLimits : footLimits;
                List<Integer> numbers = new ArrayList<>();
                int kind = 0;
                for (char wanted : form.toCharArray()) {
                    String rest = text.substring(at);
                    if (wanted == '#') {
                        String figures = rest.replaceAll("(?s)[^0-9].*", "");
                        if (figures.isEmpty() || figures.length() > 2) return faulty(1, at);
                        int[] bound = bounds[numbers.size()];
                        int value = Integer.parseInt(figures);
                        if (!in(value, bound[0], bound[1])) return faulty(2, at);
                        numbers.add(value);
                        at += figures.length();
                    } else if (wanted == '*') {
                        if (part == 4 && rest.startsWith("w")) return faulty(3, at);
                        kind = rest.isEmpty() ? 0 : "dosut".indexOf(rest.charAt(0)) + 1;
                        if (kind == 0) return faulty(1, at);
                        if (part == 11) return faulty(3, at);
                        at++;
                    } else {
                        if (!rest.startsWith(String.valueOf(wanted))) return faulty(1, at);
                        at++;
                    }
                }
                put(read, part, kind, numbers);
            }
            now = read;
            past.clear();
            return now.deeds.size();
        }

        static void put(Night read, int part, int kind, List<Integer> numbers) {
            if (part == 0) {
                read.egg = numbers.get(0);
                read.bed = numbers.get(1);
                read.rain = numbers.get(2);
            } else if (part < 4) {
                read.height[part - 1] = numbers.get(0);
                read.soft[part - 1] = numbers.get(1);
            } else {
                Deed deed = new Deed();
                deed.kind = kind;
                deed.foot = numbers.get(0);
                deed.amount = numbers.get(1);
                deed.number = read.deeds.size();
                read.deeds.add(deed);
            }
        }

        long faulty(int number, int place) {
            fault = number;
            return -1000100 - place;
        }

        long count(int what) {
            switch (what) {
                case 0:
                    int there = 0;
                    for (Number[] row : rows) if (row != null) there++;
                    return there;
                case 1: return now == null ? 0 : now.deeds.size();
                case 2: return now == null ? 0 : now.doneBits();
                case 3: return now == null ? 0 : now.hour;
                case 4: return now == null ? 0 : now.awry();
                case 5: return now == null ? 0 : now.height[0] + now.height[1] + now.height[2];
                case 6: return past.size();
                case 7: return tape.length();
                default: return BAD;
            }
        }

        long ofDeed(String name, int[] a) {
            if (now == null || !in(a[0], 0, now.deeds.size() - 1)) return BAD;
            Deed deed = now.deeds.get(a[0]);
            switch (name) {
                case "perform":
                    if (deed.isDone) return STATE;
                    act();
                    now.enact(deed);
                    return now.awry();
                case "amount":
                    if (!in(a[1], 1, 20)) return BAD;
                    if (deed.isDone) return STATE;
                    act();
                    int before = deed.amount;
                    deed.amount = a[1];
                    return before;
                case "deed": return a[1] == 0 ? deed.foot : a[1] == 1 ? deed.amount : a[1] == 2 ? (deed.isDone ? 1 : 0) : BAD;
                case "attempt":
                    return deed.isDone ? STATE : tried(now, a[0]).awry();
                case "kind": return deed.kind;
                default:
                    if (!in(a[1], 0, 1)) return BAD;
                    trace.clear();
                    Body body = new Body[] {null, new Driven(), new Overshot(), new Sunk(), new Wound(), new Turned()}[deed.kind];
                    body.model = this;
                    body.deed = deed;
                    return a[1] == 0 ? body.size() : body.mark();
            }
        }

        Night tried(Night from, int deed) {
            Night other = from.copy();
            other.enact(other.deeds.get(deed));
            return other;
        }

        long as(int one, int kind) {
            if (now == null || !in(one, 0, now.deeds.size() - 1) || !in(kind, 0, 5)) return BAD;
            String[] are = {"0", "01", "012", "013", "04", "045"};
            return are[now.deeds.get(one).kind].contains("" + kind) ? one : -1000013;
        }

        long fitting(String name, int[] a) {
            if (now == null || !in(a[0], 0, now.deeds.size() - 1)) return BAD;
            if (!in(a[1], 0, 1) || !in(a[2], 0, 7) || !in(a[4], 1, 12)) return BAD;
            if (rows[a[2]] == null) return -1000011;
            if (!holds(a[2], a[3], a[4])) return -1000012;
            if (now.deeds.get(a[0]).isDone) return STATE;
            long bits = 0;
            for (int value = 0; value <= 20; value++) {
                Night other = now.copy();
                Deed deed = other.deeds.get(a[0]);
                if (name.equals("who")) {
                    if (!in(value, 1, 5)) continue;
                    deed.kind = value;
                } else if (name.equals("feet")) {
                    if (!in(value, 0, 2)) continue;
                    deed.foot = value;
                } else {
                    if (value == 0) continue;
                    deed.amount = value;
                }
                other.enact(deed);
                boolean isSo = true;
                for (int i = 0; i < a[4]; i++) {
                    other.passHour();
                    isSo &= (a[1] == 0 ? other.side() : other.along()) == rows[a[2]][a[3] + i].intValue();
                }
                if (isSo) bits |= 1L << value;
            }
            return bits;
        }

        long ofSite(String name, int[] a) {
            switch (name) {
                case "hours":
                    if (!in(a[0], 1, 24)) return BAD;
                    if (now.hour + a[0] > 999) return FULL;
                    for (int i = 0; i < a[0]; i++) {
                        act();
                        now.passHour();
                    }
                    return now.awry();
                case "board":
                    if (!in(a[0], 0, 2)) return BAD;
                    if (now.soft[a[0]] == 0) return STATE;
                    act();
                    return --now.soft[a[0]];
                case "jack":
                    if (!in(a[0], 0, 2) || !in(a[1], 1, 20)) return BAD;
                    act();
                    now.move(a[0], a[1]);
                    return now.height[a[0]];
                case "foot":
                    if (!in(a[0], 0, 2) || !in(a[1], 0, 1)) return BAD;
                    return a[1] == 0 ? now.height[a[0]] : now.soft[a[0]];
                case "lean": return lean(a[0]);
                case "ahead": return in(a[0], 0, 2) && in(a[1], 0, 60) ? now.behind(a[1]).height[a[0]] : BAD;
                case "leanAhead":
                    if (!in(a[0], 0, 60) || !in(a[1], 0, 1)) return BAD;
                    return 1000 + (a[1] == 0 ? now.behind(a[0]).side() : now.behind(a[0]).along());
                case "lasts":
                    for (int t = 0; t <= 60; t++) if (!now.behind(t).isLevel()) return t;
                    return 61;
                case "first":
                    for (int t = 0; t <= 60; t++) if (now.behind(t).isLevel()) return t;
                    return NONE;
                case "best": return best(a[0]);
                case "plan": return plan(a[0], a[1]);
                case "boards": return boards(a[0], a[1]);
                case "lift": return lift(a[0]);
                case "worst": return worst(a[0], a[1]);
                case "wrong": return wrong(a[0], a[1]);
                case "drawn": return drawn(a[0], a[1], a[2]);
                default: throw new IllegalStateException(name);
            }
        }

        long lean(int what) {
            switch (what) {
                case 0: return 1000 + now.side();
                case 1: return 1000 + now.along();
                case 2: return now.middle();
                case 3: return now.awry();
                case 4: return now.isLevel() ? 1 : 0;
                case 5: return now.doneBits();
                default: return BAD;
            }
        }

        long best(int what) {
            if (!in(what, 0, 1)) return BAD;
            long least = NONE;
            long which = NONE;
            for (Deed deed : now.open()) {
                int awry = tried(now, deed.number).awry();
                if (least == NONE || awry < least) {
                    least = awry;
                    which = deed.number;
                }
            }
            return what == 0 ? which : least;
        }

        /** Level by level, every row of that length in its order, none left out. */
        long plan(int n, int k) {
            if (!in(n, 0, 24) || k < -1) return BAD;
            List<List<Integer>> rowsNow = new ArrayList<>();
            List<Night> nights = new ArrayList<>();
            rowsNow.add(new ArrayList<>());
            nights.add(now);
            while (!rowsNow.isEmpty()) {
                List<List<Integer>> longer = new ArrayList<>();
                List<Night> later = new ArrayList<>();
                for (int r = 0; r < rowsNow.size(); r++) {
                    List<Integer> row = rowsNow.get(r);
                    Night night = nights.get(r);
                    if (night.behind(n).isLevel()) return k == -1 ? row.size() : k < row.size() ? row.get(k) : NONE;
                    for (Deed deed : night.open()) {
                        List<Integer> next = new ArrayList<>(row);
                        next.add(deed.number);
                        longer.add(next);
                        later.add(tried(night, deed.number));
                    }
                }
                rowsNow = longer;
                nights = later;
            }
            return NONE;
        }

        long boards(int n, int j) {
            if (!in(n, 1, 24) || !in(j, -1, 2)) return BAD;
            for (int all = 0; all <= 9; all++) {
                for (int a = 0; a <= 3; a++) for (int b = 0; b <= 3; b++) for (int c = 0; c <= 3; c++) {
                    if (a + b + c != all || a > now.soft[0] || b > now.soft[1] || c > now.soft[2]) continue;
                    Night other = now.copy();
                    other.soft[0] -= a;
                    other.soft[1] -= b;
                    other.soft[2] -= c;
                    if (other.behind(n).isLevel()) return j == -1 ? all : new int[] {a, b, c}[j];
                }
            }
            return NONE;
        }

        long lift(int j) {
            if (!in(j, -1, 2)) return BAD;
            for (int all = 0; all <= 60; all++) {
                for (int a = 0; a <= 20; a++) for (int b = 0; b <= 20; b++) {
                    int c = all - a - b;
                    if (!in(c, 0, 20)) continue;
                    Night other = new Night();
                    other.egg = now.egg;
                    other.bed = now.bed;
                    other.height = now.height.clone();
                    other.move(0, a);
                    other.move(1, b);
                    other.move(2, c);
                    if (other.isLevel()) return j == -1 ? all : new int[] {a, b, c}[j];
                }
            }
            return NONE;
        }

        long worst(int n, int what) {
            if (!in(n, 0, 60) || !in(what, 0, 1)) return BAD;
            int most = now.awry();
            int at = 0;
            for (int t = 1; t <= n; t++) {
                int awry = now.behind(t).awry();
                if (awry > most) {
                    most = awry;
                    at = t;
                }
            }
            return what == 0 ? most : at;
        }

        long wrong(int p, int what) {
            if (!in(p, 0, 10) || !in(what, 0, 1)) return BAD;
            BigInteger above = cases(now, 0, p);
            BigInteger below = BigInteger.TEN.pow(now.open().size());
            BigInteger common = above.gcd(below);
            return (what == 0 ? above : below).divide(common).longValueExact();
        }

        BigInteger cases(Night night, int from, int p) {
            if (from == night.deeds.size()) return night.isLevel() ? BigInteger.ONE : BigInteger.ZERO;
            if (night.deeds.get(from).isDone) return cases(night, from + 1, p);
            return cases(night, from + 1, p).multiply(BigInteger.valueOf(p))
                .add(cases(tried(night, from), from + 1, p).multiply(BigInteger.valueOf(10 - p)));
        }

        long drawn(int n, int seed, int what) {
            if (!in(n, 0, 60) || !in(seed, 1, 999999) || !in(what, 0, 1)) return BAD;
            Night night = now.copy();
            BigInteger x = BigInteger.valueOf(seed);
            int level = 0;
            for (int i = 0; i < n; i++) {
                x = x.multiply(BigInteger.valueOf(16807)).mod(BigInteger.valueOf(2147483647));
                Deed deed = night.deeds.get(x.mod(BigInteger.valueOf(night.deeds.size())).intValue());
                if (!deed.isDone) night.enact(deed);
                night.passHour();
                if (night.isLevel()) level++;
            }
            return what == 0 ? night.awry() : level;
        }
    }

    /** The BODIES as classes, so that Java itself finds the nearest one. */
    private abstract static class Body {
        Model model;
        Model.Deed deed;

        void begin(int body) {
            if (model.trace.size() < 16) model.trace.add(body);
        }

        int size() {
            begin(10);
            return deed.amount;
        }

        int mark() {
            begin(20);
            return deed.number;
        }
    }

    private static class Driven extends Body {
        int size() {
            begin(11);
            int lent = super.size();
            return lent + mark();
        }

        int mark() {
            begin(21);
            return super.mark() + model.now.height[deed.foot];
        }
    }

    private static final class Overshot extends Driven {
        int size() {
            begin(12);
            return 0 - super.size();
        }

        int mark() {
            begin(24);
            return super.mark() * 2;
        }
    }

    private static final class Sunk extends Driven {
        int mark() {
            begin(22);
            return super.mark() - 1000;
        }
    }

    private static class Wound extends Body {
        int size() {
            begin(13);
            return super.size() - 100;
        }

        int mark() {
            begin(23);
            int lent = super.mark();
            return lent - size();
        }
    }

    private static final class Turned extends Wound {
        int size() {
            begin(14);
            return super.size() * 2;
        }
    }
}
