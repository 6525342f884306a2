import java.lang.reflect.InvocationTargetException;
import java.lang.reflect.Method;
import java.util.Arrays;
import java.util.HashMap;
import java.util.Map;

/**
 * For each promise one object or more, used for all of its 512 calls without being read anew (but where that is the
 * promise): what many calls add up to, by rules that can be counted by hand. Each answer of each call is looked at.
 */
public final class OneDoorLong {
    private static final int BAD = -1, STATE = -2, FULL = -3, NONE = -9, NO = -1000000, STREET = -5;
    private static final int MOST_CALLS = 512;
    private static final Map<String, Method> FACE = new HashMap<>();
    private static final int[] runs = new int[29];

    /** Who live in 2, 0, 1 with 1, 3, 2 errands; each hall is a minute. */
    private static final String THREE = "h1;h1;h1;p2 1 0;p0 3 0;p1 2 0;t7;";

    private static int wrong;
    private static int looked;

    private static final class Run {
        final OneDoor door = new OneDoor();
        final int promise;
        int calls;

        Run(int promise) {
            this.promise = promise;
            runs[promise]++;
        }

        Run(int promise, String text, int items) {
            this(promise);
            for (int i = 0; i < text.length(); i++) due(i + 1, "type", text.charAt(i));
            due(items, "street");
        }

        int room() {
            return MOST_CALLS - calls;
        }

        void due(long want, String name, int... numbers) {
            calls++;
            looked++;
            Object[] given = new Object[numbers.length];
            for (int i = 0; i < given.length; i++) given[i] = numbers[i];
            long got;
            try {
                got = ((Number) FACE.get(name).invoke(door, given)).longValue();
            } catch (InvocationTargetException | IllegalAccessException e) {
                tell("call " + calls + ", " + name + ", threw " + e.getCause());
                return;
            }
            if (got != want) {
                tell("call " + calls + ", " + name + Arrays.toString(numbers) + ", answered " + got
                    + ", due is " + want);
            }
        }

        /** A question that is asked for as long as there is room. */
        void end(long want, String name, int... numbers) {
            if (room() < 1) tell("no room for the last question");
            while (room() > 0) due(want, name, numbers);
        }

        void tell(String what) {
            wrong++;
            System.out.println("promise " + promise + ", run " + runs[promise] + ": " + what);
        }
    }

    // ---- 1 .. 6

    private static void newObject() {
        Run other = new Run(1, THREE, 7);
        for (int i = 0; other.room() > 0; i++) other.due(i == 0 ? NONE : 2 - (i - 1) % 2, "door", 2 - i % 2);
        // What another object was used for doesn't show, and being asked doesn't change it.
        Run r = new Run(1);
        int[] counts = {0, 0, 12, 20, 0, 0, 0};
        int[] nows = {0, 0, 0, NONE, 0, 0, 0, 0};
        while (r.room() > 30) {
            for (int w = 0; w < counts.length; w++) r.due(counts[w], "count", w);
            for (int w = 0; w < nows.length; w++) r.due(nows[w], "now", w);
            r.due(BAD, "house", 0, 0);
            r.due(BAD, "person", 0, 0);
            r.due(BAD, "steps", 0, 1);
            r.due(NONE, "homes", -1);
            r.due(NONE, "doorAt", 0);
            r.due(0, "who");
            r.due(0, "bread");
            r.due(NO, "mark", 0, 0);
            r.due(STATE, "undo");
            r.due(STATE, "back", 1);
        }
        r.end(0, "trace");
        sideBySide();
    }

    private static void sideBySide() {
        Run a = new Run(1, "h1;h1;p0 1 1;", 3);
        Run b = new Run(1, "h5;h5;p0 1 1;", 3);
        for (int i = 0; a.room() > 2; i++) {
            a.due(1 - i % 2, "steps", 0, 1 - i % 2);
            b.due(1 - i % 2, "steps", 0, 1 - i % 2);
            a.due(i + 1, "now", 0);
            b.due(5 * (i + 1), "now", 0);
        }
        a.end(10, "count", 5);
        b.end(1, "count", 1);
    }

    private static void type() {
        Run r = new Run(2);
        for (int i = 1; i <= 150; i++) r.due(i, "type", i);
        while (r.room() > 0) r.due(FULL, "type", 32);
        r = new Run(2);
        for (int i = 0; i < MOST_CALLS; i++) {
            int bytes = i % 151;
            if (bytes < 150) r.due(bytes + 1, "type", 255);
            else r.due(150, "clear");
        }
        r = new Run(2);
        for (int i = 0; i < 128; i++) {
            r.due(BAD, "type", 256 + i);
            r.due(i + 1, "type", i);
            r.due(BAD, "type", -1 - i);
            r.due(i + 1, "count", 6);
        }
    }

    private static void clear() {
        Run r = new Run(3);
        for (int i = 0; i < 256; i++) {
            r.due(1, "type", i);
            r.due(1, "clear");
        }
        r = new Run(3);
        r.end(0, "clear");
        r = new Run(3);
        for (int n = 0; r.room() > n + 1; n++) {
            for (int i = 1; i <= n; i++) r.due(i, "type", 32);
            r.due(n, "clear");
        }
        r.end(0, "clear");
    }

    private static void street() {
        Run r = new Run(4);
        r.end(0, "street");
        r = new Run(4, "h", -11);
        r.end(-11, "street");
        // The text grows behind each fault, until it is full.
        r = new Run(4, "h", -11);
        for (int i = 0; r.room() > 1; i++) {
            r.due(i < 149 ? i + 2 : FULL, "type", 32);
            r.due(-10 - Math.min(150, i + 2), "street");
        }
        // Read anew, over and over: another hall, another person, another tax each time.
        r = new Run(4);
        for (int i = 0; r.room() > 20; i++) {
            String text = "h" + i % 10 + ";p0 " + i % 9 + " " + i % 7 + ";t" + i + ";";
            for (int k = 0; k < text.length(); k++) r.due(k + 1, "type", text.charAt(k));
            r.due(3, "street");
            r.due(i % 10, "house", 0, 0);
            r.due(i, "count", 2);
            r.due(i % 7, "calms", 0);
            r.due(1, "count", 5);
        }
        r.end(1, "count", 0);
    }

    private static void house() {
        Run r = new Run(5, "h1;h2;h3;p0 0 0;p2 0 0;", 5);
        for (int i = 0; r.room() > 14; i++) {
            boolean even = i % 2 == 0;
            r.due(even ? NONE : 2, "door", even ? 2 : -1);
            r.due(even ? 0 : 3, "house", 2, 4);
            r.due(1, "house", 1, 4);
            r.due(even ? 1 : 0, "shuts", 0, even ? 1 : 0);
            r.due(even ? 1 : 0, "house", 0, 3);
            r.due(even ? 2 : 0, "exchanges", 0, 1);
            r.due(even ? 2 : 1, "house", 0, 1);
            r.due(even ? 1 : 2, "house", 2, 1);
            r.due(even ? 1 : 0, "steps", 0, even ? 1 : 0);
            r.due(even ? 0 : 1, "house", 0, 2);
            r.due(even ? 1 : 0, "house", 1, 2);
            r.due(BAD, "house", 3, i % 5);
        }
        r.end(3, "house", 2, 0);
    }

    private static void person() {
        Run r = new Run(6, "h1;h2;p0 1 50;p1 2 50;", 4);
        for (int i = 0; r.room() > 14; i++) {
            boolean even = i % 2 == 0;
            // Who is in 0 with an errand of his own is passed by the other's two, and the other way round.
            r.due(even ? 4 : 0, "person", 0, 4);
            r.due(even ? 0 : 2, "person", 1, 4);
            r.due(even ? 1 : 0, "exchanges", 0, 1);
            r.due(even ? 1 : 0, "person", 0, 0);
            r.due(even ? 0 : 1, "person", 1, 0);
            r.due(2, "person", 1, 1);
            // Out of what is the other's now, and back into what is his own again: nobody is passed.
            r.due(even ? STREET : 0, "steps", 0, even ? 0 : 1);
            r.due(even ? STREET : 0, "person", 0, 3);
            r.due(50, "person", 0, 2);
            r.due(50, "person", 1, 2);
            r.due(BAD, "person", 2, i % 5);
        }
        r.end(2, "person", 1, 1);
        patience();
    }

    private static void patience() {
        Run r = new Run(6, "h1;h2;p0 1 50;p1 2 9;", 4);
        for (int n = 1; r.room() > 3; n++) {
            r.due(0, "steps", 1, 0);
            r.due(Math.max(0, 50 - n), "person", 0, 2);
            r.due(1, "steps", 1, 1);
        }
        r.end(9, "person", 1, 2);
    }

    // ---- 7 .. 13

    private static void steps() {
        Run r = new Run(7, "h9;h9;p1 1 0;p0 1 50;p0 1 0;p0 1 0;p0 1 0;p0 1 0;", 8);
        int[] to = {0, STREET, 0, 1};
        int[] ways = {0, 0, 1, 1};
        int taken = (r.room() - 6) / 4 * 4;
        for (int i = 0; i < taken; i++) r.due(to[i % 4], "steps", 0, ways[i % 4]);
        // Each four leave 1 once and 0 twice, and enter 0 twice.
        int entered = taken / 2;
        r.due(27 * taken / 4, "now", 0);
        r.due(4 * entered + entered - 49, "now", 1);
        r.due(0, "person", 1, 2);
        r.end(STATE, "steps", 0, 1);
        r = new Run(7, "h7;h8;p1 1 5;", 3);
        r.due(NONE, "door", 1);
        int out = 0;
        while (r.room() > 4) {
            r.due(STREET, "steps", 0, 2);
            out++;
            r.due(8 * out, "now", 0);
            r.due(1, "steps", 0, 2);
        }
        r.end(BAD, "steps", 0, 3);
    }

    private static void shuts() {
        Run r = new Run(8, "h1;".repeat(9), 9);
        for (int i = 0; r.room() > 2; i++) {
            boolean shut = i / 9 % 2 == 0;
            int h = i % 9, is = shut ? 1 : 0;
            r.due(shut ? h + 1 : 8 - h, "shuts", h, is);
            r.due(STATE, "shuts", h, is);
        }
        r.end(10, "count", 5);
    }

    private static void exchanges() {
        Run r = new Run(9, "h1;h1;h1;h1;h1;h1;p0 1 0;p1 1 0;p2 1 0;p3 1 0;p4 1 0;p5 1 0;", 12);
        int[] home = {0, 1, 2, 3, 4, 5};
        for (int i = 0; r.room() > 3; i++) {
            int p = i % 6, q = (i + 1 + i / 6 % 5) % 6;
            int was = home[p];
            home[p] = home[q];
            home[q] = was;
            r.due(home[p], "exchanges", p, q);
            r.due(home[q], "person", q, 0);
        }
        r.end(BAD, "exchanges", 3, 3);
    }

    private static void door() {
        Run r = new Run(10, "h1;".repeat(9), 9);
        int was = NONE;
        for (int i = 0; r.room() > 2; i++) {
            int h = i * 5 % 9;
            r.due(was, "door", h == 0 ? -1 : h);
            was = h == 0 ? NONE : h;
            r.due(was, "now", 3);
        }
        r.end(BAD, "door", 0);
    }

    private static void calms() {
        Run r = new Run(11, "h1;h1;p0 1 3;p1 1 0;", 4);
        for (int i = 0; r.room() > 14; i++) {
            int times = i % 6;
            for (int k = 0; k < times; k++) {
                r.due(0, "steps", 1, 0);
                r.due(1, "steps", 1, 1);
            }
            r.due(Math.max(0, 3 - times), "calms", 0);
            r.due(3, "person", 0, 2);
        }
        r.end(3, "calms", 0);
    }

    private static void undo() {
        // Ten of twelve are undone, over and over: two stay each time.
        Run r = new Run(12, "h1;".repeat(9), 9);
        int was = NONE;
        while (r.room() > 40) {
            for (int i = 0; i < 12; i++) r.due(i == 0 ? was : 1 + (i - 1) % 8, "door", 1 + i % 8);
            was = 2;
            for (int left = 9; left >= 0; left--) r.due(left, "undo");
            r.due(2, "now", 3);
            r.due(STATE, "undo");
        }
        r.end(STATE, "undo");
        // One is done, one is undone.
        r = new Run(12, "h4;p0 1 1;", 2);
        while (r.room() > 4) {
            r.due(STREET, "steps", 0, 0);
            r.due(4, "now", 0);
            r.due(0, "undo");
            r.due(0, "now", 0);
        }
        r.end(0, "person", 0, 3);
        manyUndone();
    }

    /** Of hundreds of steps the last ten are undone, one by one. */
    private static void manyUndone() {
        Run r = new Run(12, "h4;h6;p0 1 1;p1 1 50;", 4);
        int n = 0;
        for (; r.room() > 45; n++) r.due(1 - n % 2, "steps", 0, 1 - n % 2);
        for (int left = 9; left >= 0; left--) {
            n--;
            r.due(left, "undo");
            r.due(n / 2 * 10 + n % 2 * 4, "now", 0);
            r.due(n % 2, "person", 0, 3);
            r.due(Math.max(0, 50 - (n + 1) / 2), "person", 1, 2);
        }
        r.end(STATE, "undo");
    }

    private static void now() {
        Run r = new Run(13, "h1;h1;h1;p0 1 4;p1 1 4;p2 1 4;", 6);
        for (int n = 1; r.room() > 24; n++) {
            r.due(6, "now", 4);
            r.due(NONE, "door", 2);
            r.due(2, "now", 4);
            r.due(2, "now", 3);
            r.due(1, "shuts", 0, 1);
            r.due(0, "now", 6);
            r.due(0, "now", 7);
            r.due(2, "door", -1);
            r.due(6, "now", 6);
            r.due(1, "now", 7);
            r.due(0, "shuts", 0, 0);
            r.due(STREET, "steps", 0, 0);
            r.due(1, "now", 2);
            r.due(0, "steps", 0, 1);
            r.due(0, "now", 2);
            r.due(n, "now", 0);
            r.due(0, "now", 1);
            r.due(0, "now", 5);
        }
        // Three times into 1: who lives there has less patience left than the two passings of a day then.
        for (int i = 0; i < 5; i++) r.due(1 - i % 2, "steps", 0, 1 - i % 2);
        r.due(2, "now", 5);
        r.end(BAD, "now", 8);
    }

    // ---- 14 .. 17

    private static void homes() {
        Run r = new Run(14, THREE, 7);
        for (int i = 0; r.room() > 14; i++) {
            r.due(8, "homes", -1);
            r.due(2, "homes", 0);
            r.due(0, "homes", 1);
            r.due(1, "homes", 2);
            r.due(NONE, "door", 2);
            r.due(2, "homes", -1);
            r.due(1, "homes", 0);
            r.due(0, "homes", 1);
            r.due(2, "homes", 2);
            r.due(2, "door", -1);
            // However they have exchanged, the same homes are given out.
            r.due(i % 2 == 0 ? 0 : 2, "exchanges", 0, 1);
        }
        r.end(BAD, "homes", 3);
    }

    private static void doorAt() {
        Run r = new Run(15, THREE, 7);
        for (int i = 0; r.room() > 5; i++) {
            boolean even = i % 2 == 0;
            r.due(even ? 1 : 2, "doorAt", 0);
            r.due(even ? 2 : 4, "doorAt", 1);
            r.due(even ? 8 : 16, "now", 4);
            r.due(even ? 0 : 2, "exchanges", 0, 1);
        }
        r.end(BAD, "doorAt", 2);
    }

    private static void fair() {
        Run r = new Run(16, THREE, 7);
        int[][] as = {{7, 2, 0, 1, 7, 2}, {0, 1, 21, 4, 7, 4}};
        for (int i = 0; r.room() > 8; i++) {
            int[] due = as[i % 2];
            for (int k = 0; k < 6; k++) r.due(due[k], "fair", k / 2, k % 2);
            r.due(i % 2 == 0 ? 0 : 2, "exchanges", 0, 1);
        }
        r.end(BAD, "fair", 3, 0);
    }

    private static void coffin() {
        Run r = new Run(17, THREE, 7);
        int[][] as = {{7, 5, 1}, {2, 4, 1}};
        for (int i = 0; r.room() > 5; i++) {
            for (int h = 0; h < 3; h++) r.due(as[i % 2][h], "coffin", h);
            r.due(i % 2 == 0 ? NONE : 2, "door", i % 2 == 0 ? 2 : -1);
        }
        r.end(BAD, "coffin", 3);
    }

    // ---- 18 .. 23

    private static void hats() {
        Run r = new Run(18, "h1;h1;p1 1 1;", 3);
        while (r.room() > 9) {
            for (int n = 1; n <= 6; n++) r.due(n, "hats", 1, 99);
            r.due(FULL, "hats", 0, 0);
            r.due(1, "who");
            r.due(6, "forget");
        }
        r.end(BAD, "hats", 2, 0);
    }

    private static void forget() {
        Run r = new Run(19, "h1;h1;p1 1 1;", 3);
        for (int i = 0; r.room() > 9; i++) {
            int there = i % 7;
            for (int n = 1; n <= there; n++) r.due(n, "hats", n % 2, n);
            r.due(there, "forget");
            r.due(0, "count", 4);
        }
        r.end(0, "forget");
    }

    private static void who() {
        Run r = new Run(20, "h1;h1;p1 1 1;p0 1 1;", 4);
        for (int i = 0; r.room() > 10; i++) {
            int m = 1 + i % 59;
            r.due(3, "who");
            r.due(1, "hats", 0, m);
            r.due(3, "who");
            // He was at home ahead of it, or is home behind it; the other one lives in 0.
            r.due(2, "hats", 1, i % 2 == 0 ? m - 1 : m + 1);
            r.due(1, "who");
            r.due(3, "hats", 1, i % 2 == 0 ? m + 1 : m - 1);
            r.due(0, "who");
            r.due(3, "forget");
        }
        r.end(3, "who");
    }

    private static void bread() {
        Run r = new Run(21, "h9;h9;h9;w10;", 4);
        while (r.room() > 4) {
            r.due(3, "bread");
            r.due(NONE, "door", 2);
            r.due(7, "bread");
            r.due(2, "door", -1);
        }
        r.end(3, "bread");
    }

    private static void meet() {
        Run r = new Run(22, "h3;h3;p1 1 1;p1 1 1;", 4);
        for (int i = 0; r.room() > 1; i++) {
            int a = i * 7 % 61, b = Math.floorMod(a - 6 + i % 13, 61);
            // Both are three minutes in 0: late by three they only change places.
            int late = a - b;
            r.due(late >= 4 ? 1 : Math.abs(late) <= 2 ? 0 : NONE, "meet", i % 2, a, 1 - i % 2, b);
        }
        r.end(BAD, "meet", 0, 61, 1, 0);
    }

    private static void odds() {
        Run r = new Run(23, "h1;h1;p0 0 0;p1 0 0;p1 0 0;", 5);
        int[] upper = {1, 81, 16, 49, 9, 1, 4, 9, 1, 1, 0};
        int[] lower = {1, 100, 25, 100, 25, 4, 25, 100, 25, 100, 1};
        for (int i = 0; r.room() > 6; i++) {
            int x = i % 11, below = i % 2;
            r.due(upper[x], "odds", below, x, 0);
            r.due(lower[x], "odds", below, x, 1);
            r.due(1, "odds", 1 - below, x, 0);
            r.due(1, "odds", 2, x, 1);
            r.due(below == 0 ? 1 : 0, "exchanges", 0, 1);
        }
        r.end(BAD, "odds", 0, 11, 0);
    }

    // ---- 24 .. 28

    private static void mark() {
        Run r = new Run(24, "h4;h5;p1 1 0;p1 1 0;p0 1 0;", 5);
        for (int n = 0; r.room() > 16; n++) {
            int shut = n % 2;
            int[] first = {5, 7, 4, 14, 4 + 9 * shut, 5 + 2 * n};
            for (int k = 0; k < 6; k++) r.due(first[k], "mark", k, 1);
            r.due(4 + 2 * n, "mark", 5, 0);
            // Up into 1, where two have no patience.
            if (shut == 1) r.due(0, "shuts", 1, 0);
            r.due(1, "steps", 2, 1);
            r.due(0, "steps", 2, 0);
            if (shut == 0) r.due(1, "shuts", 1, 1);
        }
        r.end(NO, "mark", 6, 0);
    }

    private static void keep() {
        Run r = new Run(25, "h3;h4;p0 1 1;", 3);
        int minute = 0;
        for (int i = 0; r.room() > 2; i++) {
            r.due(1 - i % 2, "steps", 0, 1 - i % 2);
            minute += i % 2 == 0 ? 3 : 4;
            r.due(minute, "keep", i % 2);
        }
        r.end(minute, "keep", 0);
    }

    private static void back() {
        Run r = new Run(26, "h3;h4;p0 1 1;p1 1 0;", 4);
        r.due(0, "keep", 0);
        int minute = 0, offended = 0;
        while (r.room() > 16) {
            // From an image of its own it goes on; the other one stays as it was at first.
            r.due(1, "steps", 0, 1);
            r.due(0, "steps", 0, 0);
            minute += 7;
            offended++;
            r.due(minute, "keep", 1);
            r.due(0, "back", 0);
            r.due(0, "now", 1);
            r.due(0, "count", 5);
            r.due(1, "shuts", 1, 1);
            r.due(NONE, "door", 1);
            r.due(minute, "back", 1);
            r.due(offended, "now", 1);
            r.due(Math.min(10, 2 * offended), "count", 5);
            r.due(0, "house", 1, 3);
            r.due(NONE, "now", 3);
        }
        r.due(Math.min(10, 2 * offended) - 1, "undo");
        r.end(minute, "back", 1);
    }

    private static void count() {
        Run r = new Run(27, "h1;h1;p0 1 1;t34;w56;", 5);
        for (int i = 1; r.room() > 12; i++) {
            r.due(i <= 6 ? i : FULL, "hats", 0, i);
            r.due(i == 1 ? NONE : 1, "door", 1);
            r.due(i, "type", 32);
            r.due(2, "count", 0);
            r.due(1, "count", 1);
            r.due(34, "count", 2);
            r.due(56, "count", 3);
            r.due(Math.min(6, i), "count", 4);
            r.due(Math.min(10, i), "count", 5);
            r.due(i, "count", 6);
        }
        r.end(BAD, "count", 7);
    }

    private static void trace() {
        int[] adds = {1, 11, 101, 1011, 10101, 100001};
        Run r = new Run(28, "h0;", 1);
        long sum = 0;
        for (int i = 0; r.room() > 3; i++) {
            r.due(0, "mark", i % 6, 0);
            sum += adds[i % 6];
            r.due(sum, "trace");
        }
        r.end(sum, "trace");
        // Nothing sets it back: not what is undone, not an image, not a text read anew.
        r = new Run(28, "h0;", 1);
        for (int i = 1; r.room() > 11; i++) {
            r.due(0, "keep", 0);
            r.due(1, "shuts", 0, 1);
            r.due(0, "mark", 5, 0);
            r.due(0, "undo");
            r.due(0, "back", 0);
            for (int k = 0; k < 3; k++) r.due(k + 1, "type", "h0;".charAt(k));
            r.due(1, "street");
            r.due(100001L * i, "trace");
        }
        r.end(NO, "mark", 0, 1);
    }

    public static void main(String[] args) {
        for (Method m : OneDoor.class.getMethods()) {
            if (m.getDeclaringClass() == OneDoor.class) FACE.put(m.getName(), m);
        }
        newObject();
        type();
        clear();
        street();
        house();
        person();
        steps();
        shuts();
        exchanges();
        door();
        calms();
        undo();
        now();
        homes();
        doorAt();
        fair();
        coffin();
        hats();
        forget();
        who();
        bread();
        meet();
        odds();
        mark();
        keep();
        back();
        count();
        trace();
        int all = 0;
        for (int n = 1; n < runs.length; n++) {
            all += runs[n];
            if (runs[n] == 0) {
                wrong++;
                System.out.println("promise " + n + " has no run here");
            }
        }
        if (looked != all * MOST_CALLS) {
            wrong++;
            System.out.println("not all runs have " + MOST_CALLS + " calls");
        }
        System.out.println(all + " runs of " + MOST_CALLS + " calls, " + wrong + " answers not as due");
        if (wrong != 0) System.exit(1);
    }
}
