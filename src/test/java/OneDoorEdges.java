import java.lang.reflect.InvocationTargetException;
import java.lang.reflect.Method;
import java.util.ArrayList;
import java.util.Arrays;
import java.util.HashMap;
import java.util.List;
import java.util.Map;
import java.util.Random;
import java.util.Set;

/**
 * Every boundary that the document names, a test of its own each, on both sides of it: the last number that is taken
 * and the first that is refused. A test has the promise's number, the document's words, a text that tells the street
 * (or none) and calls with the answers that are due, in their order; {@code n * call} is that call n times, its last
 * answer looked at; {@code tell "text"} types the text and asks street(); behind // stands why.
 *
 * <p>Wherever a call is refused, or only asks, the calls so far are made again on two new objects, one of them with
 * that call behind, and both must then answer all alike: the street, what may be undone, both images, the text.
 *
 * <p>Each row is looked at once more as the 512th call of an object: one that was busy with another street until then,
 * and has read this one anew.
 */
public final class OneDoorEdges {
    private static final int MOST_CALLS = 512;
    private static final Map<String, Integer> NAMES = Map.of("BAD", -1, "STATE", -2, "FULL", -3, "NONE", -9,
        "NO", -1000000, "STREET", -5, "LOW", Integer.MIN_VALUE, "HIGH", Integer.MAX_VALUE);
    private static final Set<String> REFUSALS = Set.of("BAD", "STATE", "FULL", "NO", "FAULT");
    private static final Set<String> QUESTIONS = Set.of("house", "person", "now", "homes", "doorAt", "fair", "coffin",
        "who", "bread", "meet", "odds", "count", "trace");
    private static final Map<String, Method> FACE = new HashMap<>();

    /** Five houses; who lives in 3, 1, 4, 1. */
    private static final String FIVE = "h2;h3;h1;h4;h5;p3 2 3;p1 1 9;p4 3 50;p1 0 2;t20;w6;";
    /** As much of all as a text may tell. */
    private static final String MOST = "h9;h9;h9;h9;h9;h9;h9;h9;h9;"
        + "p0 0 50;p8 9 50;p8 9 0;p8 9 50;p8 9 50;p8 9 50;t99;w60;";
    /** One house, one person. */
    private static final String LEAST = "h0;p0 0 0;t0;w1;";
    private static final String NINE = "h1;".repeat(9);
    private static final String EMPTY = "";
    private static final String FOUR = "h1;h2;h3;h4;p3 1 0;p1 2 9;p0 3 9;";
    /** In FOUR: nobody is in his HOME any more; they are 0, 1, 3 now. */
    private static final String MOVED = """
        exchanges(0, 2) = 0 | steps(1, 0) = 0 | steps(1, 0) = STREET
        """;
    /** In FIVE: some of all that reading anew sets back, and an image. */
    private static final String BUSY = """
        steps(1, 0) = 0 | steps(1, 1) = 1 | steps(1, 0) = 0 | steps(1, 1) = 1 | steps(1, 0) = 0
        steps(1, 0) = STREET | shuts(4, 1) = 1 | keep(0) = 15 | door(2) = NONE | exchanges(0, 1) = 1
        hats(1, 5) = 1 | mark(4, 4) = 10
        """;

    private static int promise;
    private static String words;
    private static int wrong;
    private static int looked;
    private static final int[] tests = new int[29];

    // ---- calls

    private record Call(String name, int[] numbers) {
        static Call read(String told) {
            int open = told.indexOf('('), close = told.indexOf(')');
            String[] parts = told.substring(open + 1, close).split(",");
            int n = close == open + 1 ? 0 : parts.length;
            int[] numbers = new int[n];
            for (int i = 0; i < n; i++) numbers[i] = number(parts[i].trim());
            return new Call(told.substring(0, open).trim(), numbers);
        }

        static Call of(String name, int... numbers) {
            return new Call(name, numbers);
        }

        @Override
        public String toString() {
            return name + Arrays.toString(numbers).replace('[', '(').replace(']', ')');
        }
    }

    private static int number(String told) {
        if (told.startsWith("FAULT")) return -10 - Integer.parseInt(told.substring(5).trim());
        Integer named = NAMES.get(told);
        return named != null ? named : Integer.parseInt(told);
    }

    /** An object, and the calls that it has had. */
    private static final class Street {
        final OneDoor door = new OneDoor();
        final List<Call> past = new ArrayList<>();
        int room = MOST_CALLS;

        long ask(Call call) {
            past.add(call);
            room--;
            Object[] numbers = new Object[call.numbers.length];
            for (int i = 0; i < numbers.length; i++) numbers[i] = call.numbers[i];
            try {
                return ((Number) FACE.get(call.name).invoke(door, numbers)).longValue();
            } catch (InvocationTargetException e) {
                tell(call + " threw " + e.getCause());
                return Long.MIN_VALUE;
            } catch (IllegalAccessException e) {
                throw new IllegalStateException(e);
            }
        }

        long ask(String name, int... numbers) {
            return ask(Call.of(name, numbers));
        }

        static Street again(List<Call> calls) {
            Street s = new Street();
            for (Call c : calls) s.ask(c);
            return s;
        }
    }

    private static void tell(String what) {
        wrong++;
        System.out.println("promise " + promise + ", \"" + words + "\": " + what);
    }

    private static void due(Street s, String call, long got, long want) {
        looked++;
        if (got != want) tell(call + " answered " + got + ", due is " + want + ", behind " + brief(s.past));
    }

    private static String brief(List<Call> past) {
        StringBuilder text = new StringBuilder();
        for (Call c : past) {
            if (c.name.equals("type")) text.append((char) c.numbers[0]);
            else text.append(" ").append(c).append(" ");
        }
        return text.toString();
    }

    // ---- nothing has changed

    private interface View {
        void look(Street s, List<Long> answers);
    }

    private static void nothingChanged(List<Call> before, Call call) {
        View[] views = {
            OneDoorEdges::lookAtAll, OneDoorEdges::lookAtUndone,
            (s, seen) -> lookAtImage(s, 0, seen), (s, seen) -> lookAtImage(s, 1, seen), OneDoorEdges::lookAtText};
        for (View view : views) {
            Street with = Street.again(before);
            with.ask(call);
            Street without = Street.again(before);
            // Else one of them would be looked at for a call longer.
            without.room--;
            List<Long> got = new ArrayList<>(), want = new ArrayList<>();
            view.look(with, got);
            view.look(without, want);
            looked++;
            if (!got.equals(want)) tell(call + " changed something, behind " + brief(before));
        }
    }

    private static void lookAtAll(Street s, List<Long> seen) {
        lookAtNow(s, seen);
        for (int w = 0; w < 7; w++) seen.add(s.ask("count", w));
        for (int w = 0; w < 8; w++) seen.add(s.ask("now", w));
        seen.add(s.ask("trace"));
        seen.add(s.ask("who"));
        seen.add(s.ask("bread"));
        seen.add(s.ask("forget"));
        int houses = (int) s.ask("count", 0), people = (int) s.ask("count", 1);
        for (int h = 0; h < houses; h++) {
            seen.add(s.ask("house", h, 0));
            seen.add(s.ask("house", h, 4));
            seen.add(s.ask("coffin", h));
        }
        for (int p = 0; p < people; p++) {
            seen.add(s.ask("person", p, 1));
            seen.add(s.ask("person", p, 4));
            seen.add(s.ask("homes", p));
            seen.add(s.ask("fair", p, 0));
            seen.add(s.ask("odds", p, 3, 0));
            // What he was told to have shows only when he is calmed.
            s.ask("calms", p);
            seen.add(s.ask("person", p, 2));
        }
    }

    private static void lookAtNow(Street s, List<Long> seen) {
        int houses = (int) s.ask("count", 0), people = (int) s.ask("count", 1);
        for (int h = 0; h < houses; h++) seen.add(s.ask("house", h, 3));
        for (int p = 0; p < people; p++) {
            seen.add(s.ask("person", p, 0));
            seen.add(s.ask("person", p, 2));
            seen.add(s.ask("person", p, 3));
        }
        for (int w : new int[] {0, 1, 3}) seen.add(s.ask("now", w));
    }

    private static void lookAtUndone(Street s, List<Long> seen) {
        for (int i = 0; i < 11 && s.room >= 40; i++) {
            seen.add(s.ask("undo"));
            lookAtNow(s, seen);
        }
    }

    private static void lookAtImage(Street s, int image, List<Long> seen) {
        seen.add(s.ask("back", image));
        lookAtNow(s, seen);
        lookAtUndone(s, seen);
    }

    private static void lookAtText(Street s, List<Long> seen) {
        seen.add(s.ask("type", ';'));
        seen.add(s.ask("street"));
        for (int w = 0; w < 7; w++) seen.add(s.ask("count", w));
        lookAtNow(s, seen);
        seen.add(s.ask("clear"));
    }

    // ---- rows

    private static void typeAll(Street s, String text) {
        for (char c : text.toCharArray()) s.ask("type", c);
    }

    /** A row: how often which call is made, what is typed ahead of it, and the answer that is due at last. */
    private record Row(String typed, int times, Call call, String answer) {
        static Row read(String told) {
            int is = told.lastIndexOf(" = ");
            String answer = told.substring(is + 3).trim();
            String asked = told.substring(0, is).trim();
            if (asked.startsWith("tell ")) {
                String typed = asked.substring(asked.indexOf('"') + 1, asked.lastIndexOf('"'));
                return new Row(typed, 1, Call.of("street"), answer);
            }
            int star = asked.indexOf('*');
            if (star < 0) return new Row("", 1, Call.read(asked), answer);
            int times = Integer.parseInt(asked.substring(0, star).trim());
            return new Row("", times, Call.read(asked.substring(star + 1).trim()), answer);
        }

        int calls() {
            return typed.length() + times;
        }

        /** All calls of it but the last one. */
        void begin(Street s) {
            typeAll(s, typed);
            for (int i = 1; i < times; i++) s.ask(call);
        }

        boolean changesNothing() {
            return REFUSALS.contains(answer.split(" ")[0]) || QUESTIONS.contains(call.name);
        }
    }

    private static List<Row> read(String rows) {
        List<Row> all = new ArrayList<>();
        for (String line : rows.split("\n")) {
            int why = line.indexOf("//");
            for (String told : (why < 0 ? line : line.substring(0, why)).split("[|]")) {
                if (!told.isBlank()) all.add(Row.read(told.trim()));
            }
        }
        return all;
    }

    private static Street edge(int number, String said, String text, String rows) {
        promise = number;
        words = said;
        tests[number]++;
        Street s = new Street();
        if (!text.isEmpty()) {
            typeAll(s, text);
            long items = s.ask("street");
            if (items < 0) tell("the test's own text '" + text + "' has a fault: " + items);
        }
        List<Row> all = read(rows);
        for (Row row : all) {
            row.begin(s);
            List<Call> before = new ArrayList<>(s.past);
            due(s, row.call.toString(), s.ask(row.call), number(row.answer));
            if (row.changesNothing()) nothingChanged(before, row.call);
        }
        if (s.room < 0) tell("the test makes more calls than an object is used for: " + s.past.size());
        for (int n = 1; n <= all.size(); n++) late(text, all.subList(0, n));
        return s;
    }

    // ---- the same, late

    /** The last of the rows is the last call that the object may get. */
    private static void late(String text, List<Row> rows) {
        int calls = text.length() + 1;
        for (Row row : rows) calls += row.calls();
        Street s = new Street();
        long traced = busy(s, MOST_CALLS - calls);
        typeAll(s, text);
        s.ask("street");
        for (Row row : rows) {
            row.begin(s);
            // Nothing sets THE TRACE back.
            long want = number(row.answer) + (row.call.name.equals("trace") ? traced : 0);
            due(s, "late " + row.call, s.ask(row.call), want);
        }
        if (s.room != 0) tell("late ones end at call " + s.past.size());
    }

    /** So many calls on a full street, as they come; THE TEXT is empty behind them. What THE TRACE is then. */
    private static long busy(Street s, int calls) {
        Random random = new Random(calls);
        if (calls > MOST.length() + 2) {
            typeAll(s, MOST);
            s.ask("street");
        }
        while (s.past.size() < calls - 2) s.ask(anyCall(random));
        if (calls > 0) s.ask("clear");
        return calls > 1 ? s.ask("trace") : 0;
    }

    private static Call anyCall(Random random) {
        String[] changing = {
            "steps 6 3", "steps 6 3", "steps 6 3", "shuts 9 2", "exchanges 6 6", "door 9", "calms 6", "undo", "hats 9 99",
            "keep 2", "back 2", "mark 6 9", "type 255", "homes 6", "now 8"};
        String[] parts = changing[random.nextInt(changing.length)].split(" ");
        int[] numbers = new int[parts.length - 1];
        for (int i = 0; i < numbers.length; i++) numbers[i] = random.nextInt(Integer.parseInt(parts[i + 1]));
        return Call.of(parts[0], numbers);
    }

    // ---- 1 .. 4: the street

    private static void newObject() {
        edge(1, "As told; no HOUSES", EMPTY, """
            count(0) = 0 | count(1) = 0 | count(2) = 12 | count(3) = 20 | count(4) = 0 | count(5) = 0
            count(6) = 0 | now(0) = 0 | now(1) = 0 | now(2) = 0 | now(3) = NONE | now(4) = 0 | now(5) = 0
            now(6) = 0 | now(7) = 0 | doorAt(0) = NONE | doorAt(1) = NONE | homes(-1) = NONE | who() = 0
            bread() = 0 | trace() = 0 | clear() = 0 | forget() = 0 | undo() = STATE | back(0) = STATE
            back(1) = STATE
            """);
        edge(1, "no HOUSES: there is no such thing", EMPTY, """
            house(0, 0) = BAD | person(0, 0) = BAD | steps(0, 1) = BAD | shuts(0, 1) = BAD
            exchanges(0, 1) = BAD | door(0) = BAD | door(1) = BAD | calms(0) = BAD | homes(0) = BAD
            fair(0, 0) = BAD | coffin(0) = BAD | hats(0, 0) = BAD | meet(0, 0, 1, 0) = BAD | odds(0, 0, 0) = BAD
            mark(0, 0) = NO
            """);
        edge(1, "what needs no HOUSE is taken", EMPTY, """
            door(-1) = NONE | count(5) = 1 | keep(1) = 0 | undo() = 0 | back(1) = 0 | count(5) = 1
            street() = 0 | count(5) = 0
            """);
    }

    private static void type() {
        edge(2, "A byte (0 .. 255)", EMPTY, """
            type(-1) = BAD | type(256) = BAD | type(LOW) = BAD | type(HIGH) = BAD | count(6) = 0 | type(0) = 1
            type(255) = 2 | type(256) = BAD | type(-1) = BAD | count(6) = 2
            """);
        edge(2, "150 bytes at most; FULL", EMPTY, """
            148 * type(32) = 148 | type(32) = 149 | type(32) = 150 | type(32) = FULL | type(0) = FULL
            type(255) = FULL | count(6) = 150
            """);
        edge(2, "the first of these: BAD, FULL", EMPTY, """
            150 * type(32) = 150 | type(-1) = BAD | type(256) = BAD | type(104) = FULL
            """);
        edge(2, "FULL no more when THE TEXT is empty", EMPTY, """
            150 * type(59) = 150 | street() = FAULT 0
            type(32) = FULL     // a fault leaves the text
            clear() = 150 | type(32) = 1 | 149 * type(32) = 150 | type(32) = FULL | street() = 0
            type(32) = 1        // what is told leaves none of it
            """);
        edge(2, "what FULL refused is not in THE TEXT", EMPTY, """
            tell "h1;p0 0" = FAULT 7 | 143 * type(32) = 150 | type(48) = FULL | street() = FAULT 150
            """);
    }

    private static void clear() {
        edge(3, "how many bytes it had: none, one, all", EMPTY, """
            clear() = 0 | type(104) = 1 | clear() = 1 | clear() = 0 | 150 * type(104) = 150 | clear() = 150
            count(6) = 0 | clear() = 0
            """);
        edge(3, "a refused byte is not counted", EMPTY, """
            type(256) = BAD | clear() = 0
            """);
        edge(3, "behind a fault, behind a text that was told", EMPTY, """
            tell "h1" = FAULT 2 | clear() = 2 | tell "h1;" = 1 | clear() = 0
            """);
        edge(3, "THE TEXT is empty: no byte of it is read later", EMPTY, """
            tell "hz9;" = FAULT 0 | clear() = 4 | tell "h" = FAULT 1 | clear() = 1 | tell "t99;" = 1
            tell "t1" = FAULT 2 | clear() = 2 | type(104) = 1 | clear() = 1 | street() = 0
            tell "h" = FAULT 1 | clear() = 1 | tell ";1;" = FAULT 0
            """);
        edge(3, "THE TEXT is empty, and all else stays", FIVE, BUSY + """
            type(104) = 1 | clear() = 1 | count(0) = 5 | count(4) = 1 | count(5) = 9 | now(0) = 15 | now(1) = 1
            now(3) = 2 | trace() = 10101 | back(0) = 15
            """);
    }

    private static void fault(String said, String text, int place) {
        edge(4, said, FIVE, BUSY + "tell \"" + text + "\" = FAULT " + place + "\ncount(6) = " + text.length() + "\n");
    }

    private static void items(String said, String text, int n, String rows) {
        edge(4, said, FIVE, BUSY + "tell \"" + text + "\" = " + n + "\ncount(6) = 0\n" + rows);
    }

    private static void houseTexts() {
        items("HALL (0 .. 9)", "h0;", 1, "house(0, 0) = 0");
        items("HALL (0 .. 9)", "h9;", 1, "house(0, 0) = 9");
        fault("a NUMBER beyond what it may be: HALL", "h10;", 1);
        fault("a NUMBER beyond what it may be: HALL", "h1;h 10;", 5);
        fault("a NUMBER beyond what it may be: HALL", "h99;", 1);
        items("HOUSES 0 .. (9 of them at most)", NINE, 9, "count(0) = 9");
        fault("a tenth house", NINE + "h1;", 27);
        fault("a tenth house", NINE + " h", 28);
        fault("a tenth house, ahead of its own fault", NINE + "h10;", 27);
    }

    private static void personTexts() {
        String six = "p0 0 0;".repeat(6);
        items("PEOPLE 0 .. (6 of them at most)", "h1;" + six, 7, "count(1) = 6");
        fault("a seventh person", "h1;" + six + "p0 0 0;", 45);
        fault("a seventh person", "h1;" + six + "  p", 47);
        fault("a seventh person, ahead of its own fault", "h1;" + six + "p1 0 0;", 45);
        items("HOME (a HOUSE)", "h1;p0 0 0;", 2, "person(0, 0) = 0");
        items("HOME (a HOUSE)", "h1;h1;p1 0 0;", 3, "person(0, 0) = 1");
        items("HOME (a HOUSE)", NINE + "p8 0 0;", 10, "person(0, 0) = 8");
        fault("HOME told ahead", "p0 0 0;", 1);
        fault("HOME told ahead", "p0 0 0;h1;", 1);
        fault("HOME told ahead", "h1;p1 0 0;", 4);
        fault("HOME told ahead", "h1;h1;p2 0 0;", 7);
        fault("HOME told ahead", "h1;p1 0 0;h1;", 4);
        fault("HOME told ahead", NINE + "p9 0 0;", 28);
        items("HOME told ahead", "h1;p0 0 0;h1;p1 0 0;", 4, "person(1, 0) = 1");
        items("ERRANDS a day (0 .. 9)", "h1;p0 0 0;p0 9 0;", 3, """
            person(0, 1) = 0 | person(1, 1) = 9
            """);
        fault("a NUMBER beyond what it may be: ERRANDS", "h1;p0 10 0;", 6);
        items("PATIENCE (0 .. 50)", "h1;p0 0 0;p0 0 50;", 3, """
            person(0, 2) = 0 | person(1, 2) = 50
            """);
        fault("a NUMBER beyond what it may be: PATIENCE", "h1;p0 0 51;", 8);
    }

    private static void taxTexts() {
        items("TAX (0 .. 99; 12 at first)", "t0;", 1, "count(2) = 0");
        items("TAX (0 .. 99; 12 at first)", "t99;", 1, "count(2) = 99");
        items("TAX (12 at first)", "w1;", 1, "count(2) = 12");
        fault("a NUMBER above 99: TAX", "t100;", 1);
        items("WARM (1 .. 60)", "w1;", 1, "count(3) = 1");
        items("WARM (1 .. 60)", "w60;", 1, "count(3) = 60");
        items("WARM (20 at first)", "t1;", 1, "count(3) = 20");
        fault("a NUMBER beyond what it may be: WARM", "w0;", 1);
        fault("a NUMBER beyond what it may be: WARM", "w61;", 1);
        items("t, w once each at most", "t1;w2;", 2, "count(2) = 1\ncount(3) = 2");
        fault("t again", "t1;t1;", 3);
        fault("t again", "t0;w1;t0;", 6);
        fault("t again, ahead of its own fault", "t12;t100;", 4);
        fault("t again, ahead of the text's end", "t1;t", 3);
        fault("w again", "w1;w1;", 3);
        fault("w again", "w60;t1;w60;", 7);
        fault("w again, ahead of its own fault", "w20;w0;", 4);
        fault("w again, ahead of the text's end", "w1; w", 4);
    }

    private static void numberTexts() {
        items("a NUMBER with a 0 ahead of others", "t0;w10;", 2, "count(2) = 0\ncount(3) = 10");
        fault("a NUMBER with a 0 ahead of others", "t00;", 1);
        fault("a NUMBER with a 0 ahead of others", "t01;", 1);
        fault("a NUMBER with a 0 ahead of others", "t099;", 1);
        fault("a NUMBER with a 0 ahead of others", "w 01;", 2);
        fault("a NUMBER with a 0 ahead of others", "h00;", 1);
        fault("a NUMBER with a 0 ahead of others", "h1;p00 0 0;", 4);
        fault("a NUMBER with a 0 ahead of others", "h1;p0 00 0;", 6);
        fault("a NUMBER with a 0 ahead of others", "h1;p0 0 05;", 8);
        fault("a NUMBER above 99", "h1;p100 0 0;", 4);
        fault("a NUMBER above 99", "h1;p0 100 0;", 6);
        fault("a NUMBER above 99", "h1;p0 0 100;", 8);
        fault("a NUMBER above 99, that would wrap around to 1", "t4294967297;", 1);
        fault("a NUMBER above 99, that would wrap around to 1", "w18446744073709551617;", 1);
        fault("a NUMBER above 99, of all bytes that there are", "t" + "9".repeat(149), 1);
        fault("a NUMBER with a 0 ahead, of all bytes that there are", "t" + "0".repeat(149), 1);
        fault("the first TOKEN that can't stand there", "100;", 0);
        fault("the first TOKEN that can't stand there", "0", 0);
        fault("the first TOKEN that can't stand there", "h1 2;", 3);
        fault("the first TOKEN that can't stand there", "t9 9;", 3);
        fault("NUMBERS side by side are one", "h1;p000;", 4);
        fault("NUMBERS side by side are one", "h1;p0 00;", 6);
        fault("more NUMBERS than are told", "h1;p0 0 0 0;", 10);
        fault("fewer NUMBERS than are told", "h;", 1);
        fault("fewer NUMBERS than are told", "h1;p;", 4);
        fault("fewer NUMBERS than are told", "h1;p0;", 5);
        fault("fewer NUMBERS than are told", "h1;p0 0;", 7);
        fault("fewer NUMBERS than are told", "t ;", 2);
        fault("fewer NUMBERS than are told", "w;", 1);
    }

    private static void letterTexts() {
        fault("letters that begin no ITEM", "a1;", 0);
        fault("letters that begin no ITEM", "z1;", 0);
        fault("letters that begin no ITEM", "h1;x1;", 3);
        fault("letters side by side are one TOKEN", "hh1;", 0);
        fault("letters side by side are one TOKEN", "t1;wt1;", 3);
        fault("letters side by side are one TOKEN", "h1;ph", 3);
        fault("letters that can't stand there", "h h1;", 2);
        fault("letters that can't stand there", "h1h1;", 2);
        fault("letters that can't stand there", "h1;p0t 0 0;", 5);
        fault("; that can't stand there", ";", 0);
        fault("; that can't stand there", "h1;;", 3);
        fault("a byte that begins none", "H1;", 0);
        fault("a byte that begins none", "h-1;", 1);
        fault("a byte that begins none", "h+1;", 1);
        fault("a byte that begins none", "h1,", 2);
        fault("a byte that begins none", "h\t1;", 1);
        fault("the first one of several", "h10;x100;", 1);
        fault("the first one of several", "h1;w61;t100", 4);
    }

    private static void blankTexts() {
        items("blanks (32) between TOKENS", "  h  9  ;  p  0  0  0  ;  ", 2, "house(0, 0) = 9");
        items("blanks (32) between TOKENS, or none", "h9;p0 0 0;", 2, "person(0, 2) = 0");
        items("how many ITEMS: none", "", 0, "count(0) = 0");
        items("how many ITEMS: none", "   ", 0, "count(0) = 0");
        items("how many ITEMS: none, 150 bytes", " ".repeat(150), 0, "count(0) = 0");
        items("150 bytes at most", " ".repeat(147) + "h1;", 1, "count(0) = 1");
        items("150 bytes at most", "h1;" + " ".repeat(147), 1, "count(0) = 1");
        items("how many ITEMS: 17", MOST, 17, "count(0) = 9\ncount(1) = 6\ncount(2) = 99\ncount(3) = 60");
        fault("the text's length: 150", " ".repeat(148) + "h1", 150);
        fault("the text's length: 150", " ".repeat(149) + "h", 150);
        fault("the text's length: 150", "h" + " ".repeat(149), 150);
        fault("the last byte of 150", " ".repeat(149) + ";", 149);
    }

    /** Every beginning of a good text: whole ITEMS, or too early. */
    private static void earlyTexts() {
        String text = "h5; p0 9 50;t99 ;w60;";
        int items = 0;
        boolean inside = false;
        for (int n = 0; n <= text.length(); n++) {
            char last = n == 0 ? ' ' : text.charAt(n - 1);
            if (last == ';') items++;
            inside = last != ';' && (inside || last != ' ');
            if (inside) fault("the text's length, if it ends too early", text.substring(0, n), n);
            else items("no text that ends early", text.substring(0, n), items, "count(6) = 0");
        }
    }

    /** Where each byte leads, as the first one, behind a letter, and behind a NUMBER. */
    private static void bytes() {
        for (int c = 0; c < 256; c++) {
            boolean letter = c >= 97 && c <= 122, digit = c >= 48 && c <= 57;
            boolean begins = c == 'h' || c == 'p' || c == 't' || c == 'w';
            oneByte("", c, c == 32 ? 0 : begins ? -11 : -10);
            oneByte("h", c, c == 32 || digit ? -12 : letter ? -10 : -11);
            oneByte("h1", c, c == ';' ? 1 : c == 32 ? -13 : digit ? -11 : -12);
            oneByte("t ", c, c == 32 || digit ? -13 : -12);
        }
    }

    private static void oneByte(String ahead, int c, int want) {
        StringBuilder rows = new StringBuilder();
        for (int i = 0; i < ahead.length(); i++) rows.append(typed(ahead.charAt(i), i + 1));
        rows.append(typed(c, ahead.length() + 1));
        rows.append("street() = ").append(want < 0 ? "FAULT " + (-10 - want) : "" + want);
        edge(4, "TOKENS are letters a .. z side by side, NUMBERS and ;", EMPTY, rows.toString());
    }

    private static String typed(int c, int size) {
        return "type(" + c + ") = " + size + "\n";
    }

    private static void readAnew() {
        String anew = """
            count(4) = 0 | count(5) = 0 | now(0) = 0 | now(1) = 0 | now(2) = 0 | now(3) = NONE | undo() = STATE
            back(0) = STATE | back(1) = STATE | trace() = 10101
            """;
        items("Read anew: as told, no HATS, nothing to be UNDONE, IMAGES are gone", "h7;p0 1 2;", 2, anew + """
            count(0) = 1 | count(1) = 1 | count(2) = 12 | count(3) = 20 | house(0, 0) = 7 | house(0, 3) = 0
            house(0, 2) = 1 | house(1, 0) = BAD | person(0, 0) = 0 | person(0, 1) = 1 | person(0, 2) = 2
            person(0, 3) = 0 | person(1, 0) = BAD | who() = 1
            """);
        items("Read anew: what was told is as told again", FIVE, 11, anew + """
            house(4, 3) = 0 | person(0, 0) = 3 | person(1, 3) = 1 | person(3, 2) = 2
            """);
        items("Read anew: an empty text", "", 0, anew + """
            count(0) = 0 | count(1) = 0 | count(2) = 12 | count(3) = 20 | house(0, 0) = BAD | person(0, 0) = BAD
            """);
        edge(4, "nothing changes: THE TEXT can be gone on with", FIVE, """
            tell "h1;p0 3" = FAULT 7 | street() = FAULT 7 | tell " 4" = FAULT 9 | tell ";" = 2
            person(0, 1) = 3 | person(0, 2) = 4
            """);
    }

    private static void house() {
        edge(5, "Of a HOUSE: there is no such thing", FIVE, """
            house(-1, 0) = BAD | house(0, 0) = 2 | house(4, 0) = 5 | house(5, 0) = BAD | house(LOW, 0) = BAD
            house(HIGH, 0) = BAD | house(NONE, 4) = BAD | house(STREET, 2) = BAD
            """);
        edge(5, "Of a HOUSE: 0 .. 4", FIVE, """
            house(1, -1) = BAD | house(1, 0) = 3 | house(1, 1) = 10 | house(1, 2) = 10 | house(1, 3) = 0
            house(1, 4) = 2 | house(1, 5) = BAD | house(1, LOW) = BAD | house(1, HIGH) = BAD
            """);
        edge(5, "9 of them at most", MOST, """
            house(8, 0) = 9 | house(9, 0) = BAD
            """);
        edge(5, "one HOUSE", LEAST, """
            house(0, 0) = 0 | house(1, 0) = BAD | house(-1, 0) = BAD
            """);
        edge(5, "who live there, who are there (bits): nobody, all six", "h1;h1;" + "p0 0 0;".repeat(6), """
            house(0, 1) = 63 | house(0, 2) = 63 | house(1, 1) = 0 | house(1, 2) = 0 | steps(5, 1) = 1
            steps(0, 0) = STREET | house(0, 1) = 63 | house(0, 2) = 30 | house(1, 2) = 32
            """);
        edge(5, "whether SHUT", LEAST, """
            house(0, 3) = 0 | shuts(0, 1) = 1 | house(0, 3) = 1 | shuts(0, 0) = 0 | house(0, 3) = 0
            """);
        edge(5, "MINUTES: through all HOUSES but the last one", MOST, """
            house(0, 4) = 0 | house(1, 4) = 9 | house(8, 4) = 72 | door(8) = NONE | house(8, 4) = 0
            house(7, 4) = 9 | house(5, 4) = 27 | house(4, 4) = 36 | house(3, 4) = 27 | shuts(0, 1) = 1
            house(3, 4) = 27    // whatever is shut
            """);
        edge(5, "MINUTES: a HALL of 0", "h0;h0;h9;h0;", """
            house(1, 4) = 0 | house(2, 4) = 0 | house(3, 4) = 9 | door(3) = NONE | house(3, 4) = 0
            """);
        edge(5, "the one of fewest MINUTES", "h2;h1;h3;h0;", """
            door(2) = NONE | house(0, 4) = 0 | house(1, 4) = 2 | house(2, 4) = 0 | house(3, 4) = 3 | door(3) = 2
            house(2, 4) = 0 | house(1, 4) = 2
            """);
        edge(5, "goes in by one of the DOORS, then from HOUSE to HOUSE: none beyond it", "h9;h1;h2;h5;h9;", """
            door(3) = NONE | house(0, 4) = 0 | house(1, 4) = 7 | house(2, 4) = 5 | house(3, 4) = 0
            house(4, 4) = 5
            """);
    }

    private static void person() {
        edge(6, "Of a PERSON: there is no such thing", FIVE, """
            person(-1, 0) = BAD | person(0, 0) = 3 | person(3, 0) = 1 | person(4, 0) = BAD
            person(LOW, 0) = BAD | person(HIGH, 0) = BAD
            """);
        edge(6, "Of a PERSON: 0 .. 4", FIVE, """
            person(0, -1) = BAD | person(0, 0) = 3 | person(0, 1) = 2 | person(0, 2) = 3 | person(0, 3) = 3
            person(0, 4) = 6 | person(0, 5) = BAD | person(0, LOW) = BAD | person(0, HIGH) = BAD
            """);
        edge(6, "6 of them at most", MOST, """
            person(5, 0) = 8 | person(6, 0) = BAD
            """);
        edge(6, "no PEOPLE", "h1;h2;", """
            person(0, 0) = BAD | person(0, 3) = BAD
            """);
        edge(6, "where (STREET)", LEAST, """
            person(0, 3) = 0 | steps(0, 0) = STREET | person(0, 3) = STREET | person(0, 0) = 0
            """);
        edge(6, "how often he is PASSED: not at all, most often", MOST, """
            person(0, 4) = 90   // five go out and come home nine times
            person(1, 4) = 0    // who live with one another pass nobody there
            door(8) = NONE | person(0, 4) = 0
            """);
        edge(6, "as often as he has ERRANDS", "h1;h1;p1 0 0;p0 9 0;", """
            person(1, 4) = 0 | person(0, 4) = 0 | exchanges(0, 1) = 0 | person(0, 4) = 18
            """);
        edge(6, "of as many that by HOUSE 0", "h3;h1;h3;p1 2 0;p0 0 0;p2 0 0;", """
            door(2) = NONE | person(1, 4) = 4 | person(2, 4) = 0
            """);
        edge(6, "of as many that by HOUSE 0: one minute fewer", "h3;h1;h2;p1 2 0;p0 0 0;p2 0 0;", """
            door(2) = NONE | person(1, 4) = 0 | person(2, 4) = 4
            """);
        edge(6, "of as many that by HOUSE 0: one minute more", "h3;h1;h4;p1 2 0;p0 0 0;p2 0 0;", """
            door(2) = NONE | person(1, 4) = 4 | person(2, 4) = 0
            """);
        edge(6, "PASSES all whose HOME he goes through: none above the DOOR, none below it",
            "h9;h1;h2;h5;h9;p1 1 0;p4 2 0;p0 0 0;p2 0 0;p3 0 0;", """
            door(3) = NONE | person(0, 4) = 0 | person(1, 4) = 0 | person(2, 4) = 0 | person(3, 4) = 2
            person(4, 4) = 6
            """);
        edge(6, "a HALL of 0 is gone through", "h0;h0;p1 1 0;p0 0 0;", """
            person(1, 4) = 2 | door(1) = NONE
            person(1, 4) = 2    // no minutes by each door: by house 0
            shuts(0, 1) = 1
            person(1, 4) = 2    // whatever is shut
            """);
    }

    // ---- 7 .. 13: what is done

    private static void steps() {
        edge(7, "of a PERSON; down (0), up (1), by the other DOOR (2)", FIVE, """
            door(3) = NONE | steps(-1, 0) = BAD | steps(4, 0) = BAD | steps(LOW, 0) = BAD | steps(HIGH, 0) = BAD
            steps(0, -1) = BAD | steps(0, 3) = BAD | steps(0, LOW) = BAD | steps(0, HIGH) = BAD
            steps(3, 0) = 0 | steps(0, 2) = STREET | steps(0, 0) = STATE
            steps(0, 3) = BAD   // the first of these
            steps(0, -1) = BAD | steps(4, 2) = BAD
            """);
        edge(7, "from HOUSE 0 to THE STREET, from THE STREET to HOUSE 0", "h2;h3;p0 1 1;", """
            steps(0, 0) = STREET | now(0) = 2 | now(2) = 1 | steps(0, 0) = STATE | steps(0, 1) = 0 | now(2) = 0
            now(0) = 2
            """);
        edge(7, "there is none such from where he is: up from the last HOUSE", "h2;h3;p0 1 1;", """
            steps(0, 1) = 1 | steps(0, 1) = STATE | now(0) = 2 | steps(0, 0) = 0 | now(0) = 5
            """);
        edge(7, "there is none such: up from the last one of 9, of 1", MOST, """
            steps(1, 1) = STATE | steps(1, 0) = 7 | steps(1, 1) = 8 | tell "h0;p0 0 0;" = 2
            steps(0, 1) = STATE | steps(0, 0) = STREET | steps(0, 0) = STATE | steps(0, 1) = 0
            """);
        edge(7, "by the other DOOR: there is none", "h2;h3;p0 1 1;", """
            steps(0, 2) = STATE | steps(0, 0) = STREET | steps(0, 2) = STATE
            """);
        edge(7, "by the other DOOR: from its HOUSE, from there to its HOUSE", "h2;h3;h4;p1 1 9;", """
            door(1) = NONE | steps(0, 2) = STREET | now(0) = 3 | steps(0, 2) = 1 | now(0) = 3 | steps(0, 1) = 2
            steps(0, 2) = STATE     // one above it
            2 * steps(0, 0) = 0
            steps(0, 2) = STATE     // one below it
            steps(0, 0) = STREET | door(2) = 1 | steps(0, 2) = 2 | door(1) = 2
            steps(0, 2) = STATE     // it was here
            door(-1) = 1 | steps(0, 0) = 1 | steps(0, 2) = STATE
            """);
        edge(7, "the other DOOR is no way down or up", "h2;h3;h4;p1 1 9;", """
            door(1) = NONE | steps(0, 0) = 0 | steps(0, 0) = STREET | steps(0, 1) = 0
            """);
        edge(7, "THE MINUTE is later by the HALL that he leaves (0 from THE STREET)", "h0;h9;h5;p1 1 9;", """
            steps(0, 0) = 0 | now(0) = 9 | steps(0, 0) = STREET | now(0) = 9 | steps(0, 1) = 0 | now(0) = 9
            steps(0, 1) = 1 | now(0) = 9 | steps(0, 1) = 2 | now(0) = 18
            """);
        edge(7, "1 less PATIENCE (0 at least), OFFENDED (counted each time)", "h1;h1;p1 1 9;p0 1 2;p0 1 0;p0 1 50;", """
            steps(0, 0) = 0 | person(1, 2) = 1 | person(2, 2) = 0 | person(3, 2) = 49
            now(1) = 1          // who had none at first
            steps(0, 0) = STREET
            now(1) = 1          // nobody is entered there
            steps(0, 1) = 0 | person(1, 2) = 0 | person(2, 2) = 0 | person(3, 2) = 48
            now(1) = 3          // his last, and none again
            steps(0, 1) = 1 | now(1) = 3 | steps(0, 0) = 0 | person(1, 2) = 0 | now(1) = 5
            """);
        edge(7, "each other one", "h1;h1;p0 1 1;p0 1 1;", """
            steps(0, 1) = 1 | steps(0, 0) = 0 | person(0, 2) = 1 | person(1, 2) = 0 | now(1) = 1
            """);
        edge(7, "whose HOME it is: who are away, not who stand there", "h1;h1;p0 1 3;p1 1 3;", """
            steps(0, 0) = STREET | steps(1, 0) = 0 | person(0, 2) = 2 | steps(0, 1) = 0 | person(1, 2) = 3
            person(0, 2) = 2 | exchanges(0, 1) = 1 | steps(0, 1) = 1 | steps(0, 0) = 0
            person(1, 2) = 2    // it is his now
            person(0, 2) = 2
            """);
        edge(7, "SHUT: nobody enters it, but who has his HOME there", "h1;h1;h1;p1 1 9;p2 1 9;", """
            shuts(1, 1) = 1 | steps(1, 0) = STATE
            steps(0, 0) = 0         // who is in it may leave it
            steps(0, 1) = 1 | steps(0, 1) = 2 | steps(0, 0) = 1 | exchanges(0, 1) = 2 | steps(0, 1) = 2
            steps(0, 0) = STATE     // it was his home
            steps(1, 0) = 1 | shuts(1, 0) = 0 | steps(0, 0) = 1
            """);
        edge(7, "SHUT: from THE STREET, by each DOOR, and to it", "h1;h1;h1;p1 1 9;p0 1 9;", """
            shuts(0, 1) = 1 | steps(0, 0) = STATE | steps(1, 0) = STREET | steps(1, 1) = 0
            steps(1, 0) = STREET | shuts(1, 1) = 2 | door(1) = NONE | steps(1, 2) = STATE | steps(0, 2) = STREET
            steps(0, 1) = STATE | steps(0, 2) = 1
            """);
        edge(7, "the first of these: BAD, STATE; who is refused passes nobody", "h1;h1;p0 1 1;p1 1 9;", """
            shuts(0, 1) = 1 | steps(1, 0) = STATE | person(0, 2) = 1 | now(0) = 0 | now(1) = 0 | count(5) = 1
            steps(2, 0) = BAD | steps(1, 3) = BAD
            """);
    }

    private static void shuts() {
        edge(8, "a HOUSE: there is no such thing; SHUT (1), open (0)", FIVE, """
            shuts(-1, 1) = BAD | shuts(5, 1) = BAD | shuts(LOW, 1) = BAD | shuts(HIGH, 1) = BAD
            shuts(32, 1) = BAD | shuts(0, -1) = BAD | shuts(0, 2) = BAD | shuts(0, LOW) = BAD
            shuts(0, HIGH) = BAD | shuts(0, 1) = 1 | shuts(4, 1) = 2 | shuts(0, 2) = BAD
            shuts(5, 0) = BAD   // the first of these
            """);
        edge(8, "STATE: it is so", FIVE, """
            shuts(4, 0) = STATE | shuts(4, 1) = 1 | shuts(4, 1) = STATE | shuts(4, 0) = 0 | shuts(4, 0) = STATE
            shuts(0, 0) = STATE
            """);
        edge(8, "how many are shut: all nine, none", NINE, """
            shuts(0, 1) = 1 | shuts(1, 1) = 2 | shuts(2, 1) = 3 | shuts(3, 1) = 4 | shuts(4, 1) = 5
            shuts(5, 1) = 6 | shuts(6, 1) = 7 | shuts(7, 1) = 8 | shuts(8, 1) = 9 | shuts(9, 1) = BAD
            shuts(8, 1) = STATE | shuts(0, 0) = 8 | house(0, 3) = 0 | house(8, 3) = 1
            """);
        edge(8, "how many are shut: none any more", LEAST, """
            shuts(0, 1) = 1 | shuts(1, 1) = BAD | shuts(0, 0) = 0
            """);
    }

    private static void exchanges() {
        edge(9, "two PEOPLE; BAD (alike ones, too)", FIVE, """
            exchanges(-1, 0) = BAD | exchanges(0, -1) = BAD | exchanges(4, 0) = BAD | exchanges(0, 4) = BAD
            exchanges(LOW, 0) = BAD | exchanges(0, HIGH) = BAD | exchanges(0, 0) = BAD | exchanges(3, 3) = BAD
            exchanges(-1, -1) = BAD | exchanges(4, 4) = BAD | exchanges(3, 0) = 3 | exchanges(0, 3) = 3
            """);
        edge(9, "two PEOPLE: of six, of one, of none", MOST, """
            exchanges(0, 6) = BAD | exchanges(5, 0) = 0 | person(0, 0) = 8 | tell "h1;p0 1 1;" = 2
            exchanges(0, 1) = BAD | exchanges(0, 0) = BAD | tell "h1;" = 1 | exchanges(0, 1) = BAD
            """);
        edge(9, "all two stay where they are", FIVE, """
            exchanges(0, 2) = 4 | person(0, 0) = 4 | person(2, 0) = 3 | person(0, 3) = 3 | person(2, 3) = 4
            person(0, 2) = 3 | person(2, 2) = 50 | now(0) = 0
            """);
        edge(9, "exchange HOMES, as they are NOW, wherever they are", FOUR, MOVED + """
            exchanges(0, 1) = 1 | person(0, 0) = 1 | person(1, 0) = 0 | person(2, 0) = 3 | exchanges(1, 2) = 3
            person(1, 0) = 3 | person(2, 0) = 0 | person(1, 3) = STREET | person(2, 3) = 0
            """);
        edge(9, "who have one HOME exchange it", FIVE, """
            exchanges(1, 3) = 1 | count(5) = 1 | undo() = 0
            """);
    }

    private static void door() {
        edge(10, "at a HOUSE (not 0), or none (-1)", FIVE, """
            door(-2) = BAD | door(0) = BAD | door(5) = BAD | door(LOW) = BAD | door(HIGH) = BAD
            door(NONE) = BAD | door(STREET) = BAD | door(1) = NONE | door(4) = 1 | door(0) = BAD | door(5) = BAD
            now(3) = 4
            """);
        edge(10, "where it was (NONE)", FIVE, """
            door(-1) = NONE | now(3) = NONE | door(4) = NONE | door(4) = 4 | now(3) = 4 | door(-1) = 4
            now(3) = NONE | door(-1) = NONE
            count(5) = 5        // what stays as it was is done, too
            """);
        edge(10, "at a HOUSE: of nine, of one", MOST, """
            door(9) = BAD | door(8) = NONE | tell "h1;" = 1 | door(0) = BAD | door(1) = BAD | door(-1) = NONE
            """);
    }

    private static void calms() {
        edge(11, "a PERSON: there is no such thing", FIVE, """
            calms(-1) = BAD | calms(4) = BAD | calms(LOW) = BAD | calms(HIGH) = BAD | calms(0) = 3
            calms(3) = 2
            """);
        edge(11, "a PERSON: of six, of none", MOST, """
            calms(6) = BAD | calms(5) = 50 | tell "h1;" = 1 | calms(0) = BAD
            """);
        edge(11, "what PATIENCE was: all of it, some, 0", "h1;h1;p0 1 2;p1 1 9;p0 1 0;", """
            calms(0) = 2 | count(5) = 1 | steps(1, 0) = 0 | calms(0) = 1 | person(0, 2) = 2 | now(1) = 1
            steps(1, 1) = 1 | steps(1, 0) = 0 | steps(1, 1) = 1 | steps(1, 0) = 0 | calms(0) = 0
            person(0, 2) = 2 | calms(2) = 0 | person(2, 2) = 0
            now(1) = 4          // who is calmed was offended all the same
            """);
        edge(11, "PATIENCE as told again, wherever he lives now", "h1;h1;p0 1 2;p1 1 5;", """
            exchanges(0, 1) = 1 | steps(0, 1) = 1 | steps(1, 0) = 0 | steps(1, 1) = 1 | calms(0) = 1
            person(0, 2) = 2
            """);
    }

    private static void undo() {
        edge(12, "STATE: none", FIVE, """
            undo() = STATE | shuts(0, 1) = 1 | undo() = 0 | undo() = STATE
            """);
        edge(12, "STATE: none, of calls that are none of these", FIVE, """
            steps(0, 1) = 4 | undo() = 0 | hats(0, 0) = 1 | forget() = 1 | mark(5, 0) = 2 | keep(0) = 0
            back(0) = 0 | type(104) = 1 | clear() = 1 | shuts(0, 0) = STATE | door(0) = BAD | undo() = STATE
            """);
        edge(12, "10 are known, older ones are lost: nine", FIVE, """
            door(1) = NONE | 8 * door(2) = 2 | count(5) = 9 | undo() = 8
            """);
        edge(12, "10 are known, older ones are lost: ten", FIVE, """
            door(1) = NONE | 9 * door(2) = 2 | count(5) = 10 | undo() = 9 | 9 * undo() = 0 | now(3) = NONE
            undo() = STATE
            """);
        edge(12, "10 are known, older ones are lost: eleven", FIVE, """
            door(1) = NONE | 10 * door(2) = 2 | count(5) = 10 | undo() = 9 | 9 * undo() = 0 | now(3) = 1
            undo() = STATE
            """);
        edge(12, "10 are known, older ones are lost: each one of the ten, of twenty-five", NINE, """
            17 * door(8) = 8 | door(1) = 8 | door(2) = 1 | door(3) = 2 | door(4) = 3 | door(5) = 4 | door(6) = 5
            door(7) = 6 | door(8) = 7 | undo() = 9 | now(3) = 7 | undo() = 8 | now(3) = 6 | undo() = 7
            now(3) = 5 | 3 * undo() = 4 | now(3) = 2 | door(-1) = 2 | count(5) = 5 | undo() = 4 | now(3) = 2
            4 * undo() = 0 | now(3) = 8 | undo() = STATE
            """);
        edge(12, "all is as ahead of it: a STEP", "h3;h2;p1 1 1;p0 1 1;p0 1 0;", """
            steps(0, 0) = 0 | now(0) = 2 | now(1) = 2 | person(1, 2) = 0 | undo() = 0 | now(0) = 0 | now(1) = 0
            person(0, 3) = 1 | person(1, 2) = 1 | person(2, 2) = 0
            """);
        edge(12, "all is as ahead of it: SHUT, EXCHANGE, OTHER DOOR, CALMED", FIVE, """
            steps(2, 0) = 3 | person(0, 2) = 2 | shuts(0, 1) = 1 | shuts(0, 0) = 0 | exchanges(0, 1) = 1
            door(3) = NONE | calms(0) = 2 | undo() = 5 | person(0, 2) = 2 | undo() = 4 | now(3) = NONE
            undo() = 3 | person(0, 0) = 3 | person(1, 0) = 1 | undo() = 2 | house(0, 3) = 1 | undo() = 1
            house(0, 3) = 0 | undo() = 0 | person(0, 2) = 3
            """);
        edge(12, "UNDONE, and nothing else: HATS, THE TRACE, THE TEXT, IMAGES stay", FIVE, """
            keep(1) = 0 | shuts(2, 1) = 1 | hats(4, 99) = 1 | mark(0, 0) = 2 | type(104) = 1 | undo() = 0
            count(4) = 1 | count(6) = 1 | trace() = 1 | back(1) = 0
            """);
    }

    private static void now() {
        edge(13, "0 .. 7", FIVE, """
            now(-1) = BAD | now(0) = 0 | now(7) = 0 | now(8) = BAD | now(LOW) = BAD | now(HIGH) = BAD
            """);
        edge(13, "who is in THE STREET (bits): nobody, all six", "h0;" + "p0 0 0;".repeat(6), """
            now(2) = 0 | steps(5, 0) = STREET | now(2) = 32 | steps(0, 0) = STREET | steps(1, 0) = STREET
            steps(2, 0) = STREET | steps(3, 0) = STREET | steps(4, 0) = STREET | now(2) = 63 | steps(0, 1) = 0
            now(2) = 62
            """);
        edge(13, "the other DOOR (NONE)", MOST, """
            now(3) = NONE | door(1) = NONE | now(3) = 1 | door(8) = 1 | now(3) = 8 | door(-1) = 8
            now(3) = NONE
            """);
        edge(13, "PASSINGS of all: nobody, nobody PASSED, most", MOST, """
            now(4) = 90 | door(8) = NONE | now(4) = 0 | tell "h1;h1;" = 2 | now(4) = 0
            tell "h1;h1;p1 9 0;p1 9 0;" = 4 | now(4) = 0 | tell "h1;h1;p1 0 0;p0 9 0;" = 4 | now(4) = 0
            tell "h1;h1;p1 1 0;p0 0 0;" = 4 | now(4) = 2
            """);
        edge(13, "HURT: PASSED more often than they have PATIENCE", "h1;h1;p0 0 4;p1 2 0;", """
            now(5) = 0          // four times, and he has four
            steps(1, 0) = 0
            now(5) = 1          // NOW he has three
            calms(0) = 3 | now(5) = 0 | tell "h1;h1;p0 0 3;p1 2 0;" = 4 | now(5) = 1
            tell "h1;h1;p0 0 0;p1 0 0;" = 4
            now(5) = 0          // who is never PASSED needs none
            """);
        edge(13, "HURT: 50 at most, and PASSED more often", "h1;h1;p0 0 50;p0 0 49;p1 9 0;p1 9 0;p1 7 0;", """
            now(5) = 2          // 50 times each
            door(1) = NONE | now(5) = 0
            """);
        edge(13, "STOPPED: SHUT and not that HOME", "h1;h1;h1;p0 1 1;p1 1 1;p2 1 1;", """
            now(6) = 0 | now(7) = 0 | shuts(2, 1) = 1 | now(6) = 0 | now(7) = 0 | shuts(1, 1) = 2 | now(6) = 4
            now(7) = 2 | shuts(0, 1) = 3 | now(6) = 6 | now(7) = 3 | shuts(1, 0) = 2 | now(6) = 6 | now(7) = 1
            """);
        edge(13, "STOPPED: each WAY; or whose DOOR it is", "h1;h1;h1;h1;p1 1 1;p3 1 1;p0 1 1;", """
            door(3) = NONE | shuts(0, 1) = 1 | now(6) = 0 | now(7) = 0 | shuts(3, 1) = 2
            now(6) = 1          // who live at the doors are not
            now(7) = 1 | shuts(0, 0) = 1 | now(6) = 0 | shuts(0, 1) = 2 | door(-1) = 3 | now(6) = 3 | now(7) = 1
            """);
        edge(13, "STOPPED: not by a HOUSE above both DOORS, nor below them", "h1;h1;h1;h1;h1;p2 1 1;p4 1 1;", """
            door(3) = NONE | shuts(0, 1) = 1 | shuts(4, 1) = 2 | now(6) = 0 | shuts(1, 1) = 3 | now(6) = 0
            shuts(3, 1) = 4 | now(6) = 3 | now(7) = 8
            """);
        edge(13, "STOPPED: whatever THE WAY is", "h9;h1;h0;p1 1 1;", """
            door(2) = NONE | shuts(2, 1) = 1 | now(6) = 0 | shuts(0, 1) = 2 | now(6) = 1 | shuts(2, 0) = 1
            now(6) = 0
            """);
        edge(13, "STOPPED: wherever they are", "h1;h1;p1 1 1;", """
            steps(0, 0) = 0 | steps(0, 0) = STREET | shuts(0, 1) = 1 | now(6) = 1 | now(7) = 1
            """);
        edge(13, "OPEN: the fewest; of as few the least", "h1;h1;h1;h1;h1;p2 1 1;", """
            door(4) = NONE | shuts(1, 1) = 1 | shuts(3, 1) = 2 | now(7) = 2 | shuts(0, 1) = 3
            now(7) = 8          // one is fewer than two, though they are less
            shuts(4, 1) = 4
            now(7) = 3          // two and two
            shuts(2, 1) = 5
            now(7) = 3          // his home need not be opened
            """);
        edge(13, "OPEN: all but one of nine, none", MOST, """
            shuts(0, 1) = 1 | shuts(1, 1) = 2 | shuts(2, 1) = 3 | shuts(3, 1) = 4 | shuts(4, 1) = 5
            shuts(5, 1) = 6 | shuts(6, 1) = 7 | shuts(7, 1) = 8 | shuts(8, 1) = 9 | now(6) = 62 | now(7) = 255
            door(8) = NONE | now(6) = 0 | now(7) = 0 | door(7) = 8 | now(6) = 62 | now(7) = 128
            """);
        edge(13, "OPEN: no PEOPLE", "h1;h1;", """
            shuts(0, 1) = 1 | now(6) = 0 | now(7) = 0
            """);
    }

    // ---- 14 .. 17: how it should be

    private static void homes() {
        edge(14, "how many (p = -1), the HOME of a PERSON", FIVE, """
            homes(-2) = BAD | homes(-1) = 4 | homes(0) = 1 | homes(1) = 3 | homes(2) = 1 | homes(3) = 4
            homes(4) = BAD | homes(LOW) = BAD | homes(HIGH) = BAD
            """);
        edge(14, "NONE (no PEOPLE)", "h1;h1;", """
            homes(-1) = NONE | homes(0) = BAD | homes(-2) = BAD
            """);
        edge(14, "one PERSON: nobody PASSED", "h1;h9;p1 9 0;", """
            homes(-1) = 0 | homes(0) = 1 | homes(1) = BAD
            """);
        edge(14, "six PEOPLE", MOST, """
            homes(-1) = 72 | homes(0) = 8 | homes(1) = 0 | homes(2) = 8 | homes(5) = 8 | homes(6) = BAD
            """);
        edge(14, "of several the first (HOME of PERSON 0, then 1, ..)", "h1;h1;h1;p2 1 0;p0 1 0;p1 1 0;", """
            homes(-1) = 6 | homes(0) = 0 | homes(1) = 1 | homes(2) = 2
            """);
        edge(14, "of several the first: nobody goes out", "h1;h1;h1;p2 0 0;p1 0 0;p1 0 0;", """
            homes(-1) = 0 | homes(0) = 1 | homes(1) = 1 | homes(2) = 2
            """);
        edge(14, "of several the first: one of two who go most", "h1;h1;p1 3 0;p1 1 0;p0 3 0;", """
            homes(-1) = 8 | homes(0) = 0 | homes(1) = 1 | homes(2) = 1
            """);
        edge(14, "fewest, though not the first", "h1;h1;p0 1 0;p1 9 0;", """
            now(4) = 18 | homes(-1) = 2 | homes(0) = 1 | homes(1) = 0
            """);
        edge(14, "the HOMES there are NOW, by THE WAY there is NOW", "h1;h1;h1;p2 1 0;p0 1 0;p1 1 0;", """
            door(2) = NONE | homes(-1) = 2 | exchanges(0, 1) = 0 | homes(0) = 0 | shuts(0, 1) = 1
            homes(-1) = 2
            """);
    }

    private static void doorAt() {
        edge(15, "which (what = 0), how many PASSINGS (1)", FIVE, """
            doorAt(-1) = BAD | doorAt(0) = 4 | doorAt(1) = 4 | doorAt(2) = BAD | doorAt(LOW) = BAD
            doorAt(HIGH) = BAD
            """);
        edge(15, "NONE: no PEOPLE, one HOUSE, nobody PASSED", "h1;h1;", """
            doorAt(0) = NONE | doorAt(1) = NONE | doorAt(2) = BAD | tell "h1;p0 9 0;p0 9 0;" = 3
            doorAt(0) = NONE | doorAt(1) = NONE | tell "h1;h1;p1 9 0;p1 9 0;" = 4 | doorAt(0) = NONE
            tell "h1;h1;p1 0 0;p0 9 0;" = 4 | doorAt(0) = NONE | doorAt(1) = NONE
            """);
        edge(15, "if fewer than with DOOR 0 alone", "h0;h0;p1 1 0;p0 0 0;", """
            doorAt(0) = NONE    // no minutes by each: by house 0, as ever
            doorAt(1) = NONE | tell "h1;h0;p1 1 0;p0 0 0;" = 4 | doorAt(0) = 1 | doorAt(1) = 0
            """);
        edge(15, "if fewer than with DOOR 0 alone: more", "h9;h1;h1;p1 1 0;p2 0 0;", """
            doorAt(0) = NONE | doorAt(1) = NONE | now(4) = 0 | door(2) = NONE | now(4) = 2 | doorAt(0) = NONE
            """);
        edge(15, "of several the lowest", "h1;h1;h1;p2 1 0;p0 0 0;", """
            doorAt(0) = 1 | doorAt(1) = 0
            """);
        edge(15, "fewest, though not the lowest", "h1;h1;h1;p2 1 0;p0 0 0;p1 0 0;", """
            doorAt(0) = 2 | doorAt(1) = 0 | door(2) = NONE
            doorAt(0) = 2       // than with DOOR 0 alone
            doorAt(1) = 0 | door(1) = 2 | doorAt(0) = 2 | shuts(2, 1) = 1
            doorAt(0) = 2       // whatever is shut
            """);
        edge(15, "the HOUSE (1 ..): the first, the last of nine", MOST, """
            doorAt(0) = 1 | doorAt(1) = 0 | tell "h1;h1;h1;h1;h1;h1;h1;h1;h1;p8 1 0;p7 0 0;" = 11
            doorAt(0) = 8 | doorAt(1) = 0
            """);
    }

    private static void fair() {
        edge(16, "of a PERSON; upper (what = 0), lower number (1)", FIVE, """
            fair(-1, 0) = BAD | fair(4, 0) = BAD | fair(LOW, 0) = BAD | fair(HIGH, 1) = BAD | fair(0, -1) = BAD
            fair(0, 2) = BAD | fair(0, LOW) = BAD | fair(0, HIGH) = BAD | fair(0, 0) = 60 | fair(0, 1) = 11
            fair(3, 0) = 0 | fair(3, 1) = 1
            """);
        edge(16, "0 by 1, if all is 0: no MINUTES, no ERRANDS", LEAST, """
            fair(0, 0) = 0 | fair(0, 1) = 1 | fair(1, 0) = BAD | tell "h4;p0 9 1;" = 2 | fair(0, 0) = 0
            fair(0, 1) = 1 | tell "h4;h4;p1 0 1;" = 3 | fair(0, 0) = 0 | fair(0, 1) = 1
            tell "h0;h4;p1 9 1;" = 3 | fair(0, 0) = 0 | fair(0, 1) = 1
            """);
        edge(16, "TAX of 0, of 1, of 99; one PERSON alone", "h4;h1;p1 9 1;t0;", """
            fair(0, 0) = 0 | fair(0, 1) = 1 | tell "h4;h1;p1 9 1;t1;" = 4 | fair(0, 0) = 1 | fair(0, 1) = 1
            tell "h4;h1;p1 9 1;t99;" = 4 | fair(0, 0) = 99 | fair(0, 1) = 1
            """);
        edge(16, "in least terms", MOST, """
            fair(0, 0) = 0 | fair(0, 1) = 1 | fair(1, 0) = 99 | fair(1, 1) = 5 | fair(5, 1) = 5
            fair(6, 1) = BAD | tell "h4;h1;p1 1 0;p1 1 0;t1;" = 5 | fair(1, 0) = 1 | fair(1, 1) = 2
            """);
        edge(16, "THE WAY to his HOME, as it is NOW", "h1;h9;h9;p2 1 0;p1 2 0;", """
            fair(0, 0) = 10 | fair(0, 1) = 1 | door(2) = NONE | fair(0, 0) = 0 | fair(1, 0) = 12
            exchanges(0, 1) = 1 | fair(0, 0) = 12 | shuts(0, 1) = 1 | fair(0, 0) = 12
            """);
    }

    private static void coffin() {
        edge(17, "in a HOUSE: there is no such thing", FIVE, """
            coffin(-1) = BAD | coffin(0) = 15 | coffin(4) = 4 | coffin(5) = BAD | coffin(LOW) = BAD
            coffin(HIGH) = BAD | coffin(NONE) = BAD
            """);
        edge(17, "in a HOUSE: of nine, of one; no PEOPLE", MOST, """
            coffin(8) = 62 | coffin(0) = 63 | coffin(9) = BAD | tell "h1;" = 1 | coffin(0) = 0 | coffin(1) = BAD
            """);
        edge(17, "each WAY; who live in it, too", MOST, """
            door(8) = NONE | coffin(0) = 1 | coffin(4) = 0 | coffin(8) = 62 | door(7) = 8
            coffin(7) = 62      // the other way goes through it, too
            coffin(6) = 0 | door(-1) = 7 | coffin(6) = 62
            """);
        edge(17, "each WAY has that HOUSE: below both DOORS' ways, above them", "h1;h1;h1;h1;p3 1 1;p1 1 1;", """
            door(2) = NONE
            coffin(2) = 1       // both go through it
            coffin(1) = 2 | coffin(0) = 0 | coffin(3) = 1
            """);
        edge(17, "nothing is shut", MOST, """
            door(8) = NONE | shuts(8, 1) = 1 | coffin(4) = 0 | coffin(0) = 1
            """);
    }

    // ---- 18 .. 23: hats, bread, meetings

    private static void hats() {
        edge(18, "in a HOUSE, at minute m (0 .. 99)", FIVE, """
            hats(-1, 0) = BAD | hats(5, 0) = BAD | hats(LOW, 0) = BAD | hats(HIGH, 0) = BAD | hats(0, -1) = BAD
            hats(0, 100) = BAD | hats(0, LOW) = BAD | hats(0, HIGH) = BAD | hats(STREET, 0) = BAD
            hats(0, 0) = 1 | hats(4, 99) = 2 | hats(0, 100) = BAD | hats(5, 99) = BAD | count(4) = 2
            """);
        edge(18, "in a HOUSE: of nine, of one", MOST, """
            hats(8, 5) = 1 | hats(9, 5) = BAD | tell "h1;" = 1 | hats(1, 5) = BAD | hats(0, 5) = 1
            """);
        edge(18, "6 at most; FULL", FIVE, """
            5 * hats(4, 99) = 5
            hats(4, 99) = 6     // alike ones are counted
            who() = 4 | hats(0, 0) = FULL | hats(4, 99) = FULL | who() = 4 | count(4) = 6
            """);
        edge(18, "the first of these: BAD, FULL", FIVE, """
            6 * hats(4, 99) = 6 | hats(5, 0) = BAD | hats(0, 100) = BAD | hats(-1, 0) = BAD | hats(0, -1) = BAD
            hats(0, 99) = FULL
            """);
        edge(18, "FULL no more when there are no HATS", FIVE, """
            6 * hats(4, 99) = 6 | hats(4, 99) = FULL | forget() = 6 | 6 * hats(3, 99) = 6 | hats(3, 99) = FULL
            who() = 1
            """);
    }

    private static void forget() {
        edge(19, "how many there were: none, one, six", FIVE, """
            forget() = 0 | hats(0, 0) = 1 | forget() = 1 | forget() = 0 | count(4) = 0 | 6 * hats(0, 0) = 6
            hats(0, 0) = FULL | forget() = 6 | forget() = 0
            """);
        edge(19, "There are no HATS", FIVE, """
            hats(4, 5) = 1 | hats(3, 5) = 2 | who() = 0 | forget() = 2 | who() = 15 | hats(4, 99) = 1
            who() = 4
            """);
        edge(19, "There are no HATS, and all else stays", FIVE, BUSY + """
            forget() = 1 | count(5) = 9 | now(0) = 15 | trace() = 10101 | back(0) = 15
            """);
    }

    private static void who() {
        edge(20, "no HATS; no PEOPLE", FIVE, """
            who() = 15 | tell "h1;" = 1 | who() = 0 | hats(0, 5) = 1 | who() = 0
            """);
        edge(20, "went out at some minute s (0 .. 60): 60", FIVE, """
            hats(4, 59) = 1 | hats(3, 60) = 2 | who() = 4
            """);
        edge(20, "went out at some minute s (0 .. 60): 61 is too late", FIVE, """
            hats(4, 60) = 1 | hats(3, 61) = 2 | who() = 0
            """);
        edge(20, "went out at some minute s (0 .. 60): 0", FIVE, """
            hats(3, 0) = 1 | hats(0, 8) = 2
            who() = 5           // from 4 at 0, and from 3 later
            hats(3, 3) = 3 | hats(0, 9) = 4 | who() = 5 | forget() = 4 | hats(3, 0) = 1 | hats(2, 4) = 2
            who() = 5 | hats(2, 5) = 3
            who() = 0           // one minute, and no more
            """);
        edge(20, "came in at some s: 60", FIVE, """
            hats(0, 61) = 1     // the second of the two minutes in it
            hats(4, 70) = 2 | hats(4, 99) = 3 | who() = 4
            """);
        edge(20, "came in at some s: 61 is too late", FIVE, """
            hats(0, 62) = 1 | hats(4, 99) = 2 | who() = 0
            """);
        edge(20, "came in at some s: 0; then in his HOME for good", FIVE, """
            hats(0, 0) = 1 | hats(0, 1) = 2 | hats(1, 2) = 3 | hats(3, 9) = 4 | hats(4, 10) = 5
            hats(4, 99) = 6 | who() = 4 | forget() = 6 | hats(0, 0) = 1 | hats(4, 9) = 2 | who() = 0
            """);
        edge(20, "in his HOME in all minutes ahead of s (from 0 on)", FIVE, """
            hats(4, 0) = 1 | who() = 4 | hats(4, 59) = 2 | who() = 4 | hats(4, 60) = 3
            who() = 0           // gone by then
            """);
        edge(20, "from 0 on, and for good, are two", "h3;h3;p1 1 1;", """
            hats(1, 2) = 1
            who() = 1           // he could not come in by then, but was there
            hats(1, 60) = 2 | who() = 0
            """);
        edge(20, "in s he enters the next HOUSE towards the DOOR; then in THE STREET", "h3;p0 1 1;", """
            hats(0, 0) = 1 | who() = 1 | hats(0, 99) = 2
            who() = 1           // he came in at 0, and is at home at once
            forget() = 2 | hats(0, 59) = 1 | who() = 1
            """);
        edge(20, "as many minutes as its HALL has: 0, 1", "h0;h5;p1 1 1;", """
            hats(0, 30) = 1 | who() = 0 | tell "h1;h5;p1 1 1;" = 3 | hats(0, 30) = 1 | who() = 1
            hats(1, 29) = 2 | who() = 1 | forget() = 2 | hats(0, 30) = 1 | hats(0, 31) = 2 | who() = 0
            forget() = 2 | hats(0, 30) = 1 | hats(1, 31) = 2 | who() = 1
            """);
        edge(20, "at minute 0, at minute 99", "h9;h9;h9;h9;h9;h9;h1;p6 1 1;p0 1 1;", """
            hats(0, 99) = 1
            who() = 3           // 45 minutes behind 54, and his home
            forget() = 1 | hats(5, 0) = 1 | who() = 1 | hats(0, 53) = 2 | who() = 1 | hats(0, 54) = 3
            who() = 0
            """);
        edge(20, "each such HOUSE", FIVE, """
            hats(3, 5) = 1 | hats(3, 5) = 2 | who() = 5
            hats(4, 5) = 3      // nobody is in two
            who() = 0
            """);
        edge(20, "by THE WAY to his HOME, as it is NOW, wherever he is", FIVE, """
            hats(4, 50) = 1 | hats(3, 70) = 2 | who() = 0 | door(4) = NONE | who() = 1 | exchanges(0, 1) = 1
            who() = 2 | 2 * steps(1, 0) = STREET | shuts(4, 1) = 1 | who() = 2
            """);
    }

    private static void bread() {
        edge(21, "MINUTES no more than WARM: 1", "w1;h1;h1;h0;", """
            bread() = 3
            """);
        edge(21, "MINUTES no more than WARM: 60", "h9;h9;h9;h9;h9;h9;h6;h1;h0;w60;", """
            bread() = 255
            """);
        edge(21, "MINUTES no more than WARM: 20 at first", "h9;h9;h2;h1;h0;", """
            bread() = 15
            """);
        edge(21, "no HOUSES, one, all of them", EMPTY, """
            bread() = 0 | tell "h9;" = 1 | bread() = 1 | tell "h0;h0;h0;h0;h0;h0;h0;h0;h0;w1;" = 10
            bread() = 511
            """);
        edge(21, "by its WAY, whatever is SHUT", MOST, """
            bread() = 127 | door(8) = NONE | bread() = 511 | shuts(8, 1) = 1 | bread() = 511
            """);
    }

    private static void meet() {
        edge(22, "two PEOPLE; BAD (alike ones, too)", FIVE, """
            meet(-1, 0, 0, 0) = BAD | meet(4, 0, 0, 0) = BAD | meet(0, 0, -1, 0) = BAD | meet(0, 0, 4, 0) = BAD
            meet(LOW, 0, HIGH, 0) = BAD | meet(0, 0, 0, 0) = BAD | meet(3, 9, 3, 0) = BAD | meet(3, 9, 0, 0) = 1
            meet(0, 9, 3, 0) = 1
            """);
        edge(22, "at minute a, at minute b (0 .. 60 each)", FIVE, """
            meet(0, -1, 1, 0) = BAD | meet(0, 61, 1, 0) = BAD | meet(0, LOW, 1, 0) = BAD
            meet(0, HIGH, 1, 0) = BAD | meet(0, 0, 1, -1) = BAD | meet(0, 0, 1, 61) = BAD
            meet(0, 0, 1, LOW) = BAD | meet(0, 0, 1, HIGH) = BAD | meet(0, 60, 1, 60) = 1 | meet(0, 0, 1, 0) = 1
            meet(0, 0, 1, 60) = NONE | meet(0, 60, 2, 0) = 3
            """);
        edge(22, "the first minute in which they are in one: 0, 59; none", "h3;p0 1 1;p0 1 1;", """
            meet(0, 1, 1, 0) = 0 | meet(0, 0, 1, 0) = NONE | meet(0, 60, 1, 59) = 0 | meet(0, 60, 1, 60) = NONE
            meet(0, 59, 1, 60) = NONE
            """);
        edge(22, "the first minute: of several HOUSES", "h1;h3;h3;h1;p3 1 1;p3 1 1;p2 1 1;", """
            meet(0, 0, 1, 0) = 1        // 2 2 2 1 1 1 0, and 0 1 1 1 2 2 2 3
            meet(0, 1, 1, 0) = NONE     // 3 2 2 2 1 1 1 0, and 0 1 1 1 2 2 2 3
            meet(0, 2, 1, 0) = 2 | meet(0, 8, 1, 0) = 3 | meet(0, 6, 1, 0) = 2
            meet(0, 7, 1, 0) = NONE     // one out of 3 as the other comes
            meet(0, 8, 2, 0) = 2
            """);
        edge(22, "the HOUSE: THE STREET is none", "h1;h1;p1 1 1;p1 1 1;", """
            meet(0, 0, 1, 60) = NONE | meet(0, 0, 1, 1) = NONE | meet(0, 0, 1, 0) = 0 | meet(0, 1, 1, 0) = NONE
            meet(0, 2, 1, 0) = 1
            """);
        edge(22, "a HALL of 0: no minute in it", "h0;h9;p1 1 1;p1 1 1;", """
            meet(0, 0, 1, 0) = NONE | meet(0, 1, 1, 0) = 1
            """);
        edge(22, "the longest WAY", MOST, """
            meet(1, 60, 2, 60) = NONE   // from 4 to 3 as the other goes from 3 to 4
            meet(1, 60, 2, 59) = 4 | meet(1, 59, 2, 60) = 3 | meet(1, 0, 2, 60) = 0 | meet(1, 0, 2, 0) = NONE
            meet(1, 9, 2, 0) = 4 | meet(1, 60, 0, 60) = 0
            """);
        edge(22, "by THE WAY to his HOME, as it is NOW, whatever is SHUT", FIVE, """
            meet(0, 0, 2, 0) = 1 | door(4) = NONE | meet(0, 0, 2, 0) = 4 | exchanges(0, 2) = 4
            meet(0, 0, 2, 0) = NONE | shuts(4, 1) = 1 | meet(2, 0, 0, 4) = 4
            """);
    }

    private static void odds() {
        edge(23, "by x (0 .. 10) of a PERSON; upper (what = 0), lower number (1)", FIVE, """
            odds(-1, 1, 0) = BAD | odds(4, 1, 0) = BAD | odds(LOW, 1, 0) = BAD | odds(HIGH, 1, 0) = BAD
            odds(0, -1, 0) = BAD | odds(0, 11, 0) = BAD | odds(0, LOW, 0) = BAD | odds(0, HIGH, 0) = BAD
            odds(0, 1, -1) = BAD | odds(0, 1, 2) = BAD | odds(0, 1, LOW) = BAD | odds(0, 1, HIGH) = BAD
            odds(0, 1, 0) = 9 | odds(0, 1, 1) = 10 | odds(3, 1, 0) = 81 | odds(3, 1, 1) = 100
            """);
        edge(23, "x of 0, of 10", MOST, """
            odds(0, 0, 0) = 1 | odds(0, 0, 1) = 1 | odds(0, 10, 0) = 0 | odds(0, 10, 1) = 1
            odds(1, 10, 0) = 1      // nobody goes through there
            odds(1, 10, 1) = 1 | odds(6, 10, 0) = BAD
            """);
        edge(23, "each other one: five of them, in least terms", MOST, """
            odds(0, 1, 0) = 59049 | odds(0, 1, 1) = 100000 | odds(0, 5, 0) = 1 | odds(0, 5, 1) = 32
            odds(0, 8, 0) = 1 | odds(0, 8, 1) = 3125 | odds(0, 9, 0) = 1 | odds(0, 9, 1) = 100000
            """);
        edge(23, "each other one: he is alone; they have no ERRANDS", LEAST, """
            odds(0, 10, 0) = 1 | odds(0, 10, 1) = 1 | tell "h1;h1;p0 0 0;p1 0 0;" = 4 | odds(0, 3, 0) = 7
            odds(0, 3, 1) = 10 | odds(1, 3, 0) = 1 | odds(1, 3, 1) = 1
            """);
        edge(23, "by THE WAY, as it is NOW, whatever is SHUT", MOST, """
            door(8) = NONE | odds(0, 9, 0) = 1 | odds(0, 9, 1) = 1 | exchanges(0, 1) = 8 | odds(0, 9, 1) = 1
            door(7) = 8 | odds(1, 9, 1) = 1 | door(-1) = 7 | shuts(0, 1) = 1 | odds(1, 9, 1) = 100000
            """);
    }

    // ---- 24 .. 28: kinds, images

    private static void mark() {
        edge(24, "KINDS 0 .. 5; NO: BAD", FIVE, """
            mark(-1, 0) = NO | mark(6, 0) = NO | mark(LOW, 0) = NO | mark(HIGH, 0) = NO | mark(0, -1) = NO
            mark(0, 5) = NO | mark(0, LOW) = NO | mark(0, HIGH) = NO | mark(-1, -1) = NO | trace() = 0
            mark(0, 0) = 2 | mark(5, 0) = 2 | mark(0, 4) = 5 | mark(5, 4) = 5
            """);
        edge(24, "a HOUSE: of nine, of one, of none", MOST, """
            mark(0, 8) = 9 | mark(0, 9) = NO | tell "h0;" = 1 | mark(0, 0) = 0 | mark(0, 1) = NO | street() = 0
            mark(0, 0) = NO
            """);
        edge(24, "HALL its minutes: 0, 9", "h0;h9;", """
            mark(0, 0) = 0 | mark(0, 1) = 9 | door(1) = NONE | mark(0, 1) = 9
            """);
        edge(24, "KITCHEN, PIANO: nobody, all six live there", "h9;h9;" + "p0 0 0;".repeat(6), """
            mark(1, 0) = 15 | mark(3, 0) = 30 | mark(1, 1) = 9 | mark(3, 1) = 18 | steps(0, 1) = 1
            mark(1, 0) = 15     // who live there, not who are there
            mark(1, 1) = 9
            """);
        edge(24, "BATH: a number may be below 0, and -1 is not BAD", "h0;h0;h0;h0;h0;h0;h0;h0;h0;", """
            mark(2, 0) = 0 | mark(2, 1) = -1 | mark(2, 2) = -2 | mark(2, 3) = -3 | mark(2, 8) = -8
            trace() = 505
            """);
        edge(24, "CURTAIN: if it is shut", "h0;h0;h9;", """
            mark(4, 1) = -1 | shuts(1, 1) = 1 | mark(4, 1) = 8 | mark(4, 2) = 7 | mark(2, 1) = -1
            shuts(2, 1) = 2 | mark(4, 2) = 16 | shuts(1, 0) = 1 | mark(4, 1) = -1 | mark(4, 0) = 0
            """);
        edge(24, "ATTIC: how many were OFFENDED: none, each time", "h3;h1;p1 1 1;p0 1 0;p0 1 2;", """
            mark(5, 0) = 3 | steps(0, 0) = 0 | mark(5, 0) = 4 | steps(0, 1) = 1 | steps(0, 0) = 0
            mark(5, 0) = 6 | mark(5, 1) = 4 | undo() = 2 | mark(5, 0) = 4
            """);
    }

    private static void keep() {
        edge(25, "IMAGES 0, 1", FIVE, """
            keep(-1) = BAD | keep(2) = BAD | keep(LOW) = BAD | keep(HIGH) = BAD | back(0) = STATE
            back(1) = STATE | keep(0) = 0 | back(1) = STATE | keep(1) = 0 | back(1) = 0
            """);
        edge(25, "THE MINUTE", FIVE, """
            keep(0) = 0 | steps(2, 0) = 3 | keep(0) = 5 | steps(2, 0) = 2 | keep(1) = 9
            """);
        edge(25, "An IMAGE is kept: anew, one beside the other", FIVE, """
            keep(0) = 0 | steps(2, 0) = 3 | keep(1) = 5 | steps(2, 0) = 2 | keep(0) = 9 | keep(2) = BAD
            back(1) = 5 | person(2, 3) = 3 | back(0) = 9 | person(2, 3) = 2 | count(5) = 2
            """);
        edge(25, "no HOUSES", EMPTY, """
            keep(1) = 0 | keep(2) = BAD | back(1) = 0
            """);
        edge(25, "nothing that may be UNDONE", FIVE, """
            keep(0) = 0 | undo() = STATE | count(5) = 0
            """);
    }

    private static void back() {
        edge(26, "IMAGES 0, 1; BAD", FIVE, """
            keep(0) = 0 | keep(1) = 0 | back(-1) = BAD | back(2) = BAD | back(LOW) = BAD | back(HIGH) = BAD
            back(0) = 0 | back(1) = 0
            """);
        edge(26, "the first of these: BAD, STATE", FIVE, """
            back(2) = BAD | back(-1) = BAD | back(LOW) = BAD | back(HIGH) = BAD | back(0) = STATE
            """);
        edge(26, "STATE: none was kept", FIVE, """
            back(0) = STATE | back(1) = STATE | keep(1) = 0 | back(0) = STATE | back(1) = 0 | back(2) = BAD
            """);
        edge(26, "STATE: none was kept since all was read anew", FIVE, """
            keep(0) = 0 | tell "x" = FAULT 0 | back(0) = 0 | clear() = 1 | street() = 0 | back(0) = STATE
            keep(0) = 0 | back(0) = 0 | back(1) = STATE
            """);
        edge(26, "where all are, HOMES, PATIENCE, THE MINUTE, OFFENDED, SHUT, the other DOOR", FIVE, """
            steps(2, 0) = 3 | shuts(4, 1) = 1 | exchanges(0, 1) = 1 | door(2) = NONE | keep(1) = 5
            3 * steps(2, 0) = 0 | 3 * steps(2, 1) = 3 | shuts(4, 0) = 0 | shuts(0, 1) = 1 | exchanges(0, 2) = 4
            door(-1) = 2 | calms(0) = 0 | now(0) = 19 | back(1) = 5 | now(0) = 5 | now(1) = 0 | now(3) = 2
            person(0, 0) = 1 | person(1, 0) = 3 | person(2, 0) = 4 | person(0, 2) = 2 | person(1, 2) = 9
            person(2, 3) = 3 | house(0, 3) = 0 | house(4, 3) = 1 | count(5) = 4
            """);
        edge(26, "OFFENDED, as kept", "h1;h1;p1 1 1;p0 1 0;", """
            steps(0, 0) = 0 | keep(0) = 1 | 2 * steps(0, 1) = STATE | steps(0, 0) = 0 | now(1) = 2 | back(0) = 1
            now(1) = 1
            """);
        edge(26, "what may be UNDONE: none, ten of eleven", FIVE, """
            keep(0) = 0 | door(1) = NONE | 9 * door(2) = 2 | door(3) = 2 | keep(1) = 0 | count(5) = 10
            back(0) = 0 | count(5) = 0 | undo() = STATE | shuts(0, 1) = 1 | back(1) = 0 | count(5) = 10
            undo() = 9 | now(3) = 2 | 9 * undo() = 0 | now(3) = 1 | undo() = STATE | back(1) = 0 | count(5) = 10
            now(3) = 3
            """);
        edge(26, "what may be UNDONE, as it was ahead of each", FIVE, """
            shuts(0, 1) = 1 | door(1) = NONE | steps(2, 0) = 3 | keep(0) = 5 | 3 * undo() = 0
            exchanges(0, 1) = 1 | door(4) = NONE | calms(0) = 3 | shuts(2, 1) = 1 | back(0) = 5 | count(5) = 3
            undo() = 2 | now(0) = 0 | now(3) = 1 | person(2, 3) = 4 | undo() = 1 | now(3) = NONE
            house(0, 3) = 1 | person(0, 0) = 3 | undo() = 0 | house(0, 3) = 0 | house(2, 3) = 0 | undo() = STATE
            """);
        edge(26, "an IMAGE stays as it was kept", FIVE, """
            door(1) = NONE | keep(0) = 0 | back(0) = 0 | shuts(3, 1) = 1 | 2 * undo() = 0 | door(4) = NONE
            calms(0) = 3 | back(0) = 0 | now(3) = 1 | house(3, 3) = 0 | count(5) = 1 | undo() = 0
            now(3) = NONE
            """);
        edge(26, "nothing else: HATS, THE TRACE, THE TEXT stay; it is not UNDONE", FIVE, """
            keep(0) = 0 | shuts(1, 1) = 1 | hats(4, 99) = 1 | mark(0, 0) = 2 | type(104) = 1 | back(0) = 0
            count(4) = 1 | who() = 4 | trace() = 1 | count(6) = 1 | count(5) = 0 | undo() = STATE
            """);
    }

    private static void count() {
        edge(27, "0 .. 6", FIVE, """
            count(-1) = BAD | count(0) = 5 | count(6) = 0 | count(7) = BAD | count(LOW) = BAD
            count(HIGH) = BAD
            """);
        edge(27, "none of all, and the least numbers", "t0;w1;", """
            count(0) = 0 | count(1) = 0 | count(2) = 0 | count(3) = 1 | count(4) = 0 | count(5) = 0
            count(6) = 0
            """);
        edge(27, "as many as there may be", MOST, """
            10 * door(1) = 1 | door(2) = 1 | 6 * hats(0, 0) = 6 | 150 * type(32) = 150 | count(0) = 9
            count(1) = 6 | count(2) = 99 | count(3) = 60 | count(4) = 6 | count(5) = 10 | count(6) = 150
            """);
        edge(27, "TAX 12, WARM 20 at first", "h1;", """
            count(2) = 12 | count(3) = 20
            """);
    }

    private static void trace() {
        String[] comes = {"1", "11", "101", "1011", "10101", "100001"};
        for (int kind = 0; kind < comes.length; kind++) {
            edge(28, "numbers in brackets, as often as mark() asks that body: KIND " + kind, "h0;h0;",
                "trace() = 0\n"
                + "mark(" + kind + ", 0) = 0\n"
                + "trace() = " + comes[kind] + "\n"
                + "2 * mark(" + kind + ", 0) = 0\n"
                + "trace() = " + 3 * Integer.parseInt(comes[kind]) + "\n");
        }
        edge(28, "a refused mark() asks none", FIVE, """
            mark(6, 0) = NO | mark(-1, 0) = NO | mark(5, 5) = NO | mark(3, -1) = NO | trace() = 0
            mark(3, 4) = 12 | trace() = 1011
            """);
        edge(28, "whatever is UNDONE, goes back, is read anew", FIVE, """
            keep(0) = 0 | shuts(0, 1) = 1 | mark(5, 0) = 2 | undo() = 0 | trace() = 100001 | back(0) = 0
            trace() = 100001 | tell "h1" = FAULT 2 | trace() = 100001 | tell ";" = 1 | trace() = 100001
            mark(0, 0) = 1 | trace() = 100002
            """);
        edge(28, "other calls ask none", MOST, """
            house(0, 0) = 9 | doorAt(0) = 1 | homes(-1) = 72 | bread() = 127 | trace() = 0
            """);
        Street s = edge(28, "more than 2 ^ 24: as many marks as an object gets calls", "h0;", "");
        for (int i = 0; i < 500; i++) s.ask("mark", 5, 0);
        due(s, "trace()", s.ask("trace"), 50000500L);
    }

    /** Where all live NOW counts: not as told, not where they are. */
    private static void homesAreNow() {
        String said = "HOME, as it is NOW, wherever he is";
        edge(5, said, FOUR, MOVED + """
            house(0, 1) = 1 | house(1, 1) = 2 | house(2, 1) = 0 | house(3, 1) = 4
            house(0, 2) = 4 | house(1, 2) = 0 | house(2, 2) = 0 | house(3, 2) = 1
            """);
        edge(6, said, FOUR, MOVED + """
            person(0, 4) = 10 | person(1, 4) = 6 | person(2, 4) = 0
            """);
        edge(7, said, FOUR, MOVED + """
            person(0, 2) = 0 | person(2, 2) = 9 | now(1) = 1 | steps(1, 1) = 0 | now(1) = 2
            3 * steps(0, 0) = 0 | person(1, 2) = 8 | now(1) = 2
            """);
        edge(13, said, FOUR, MOVED + """
            now(0) = 3 | now(4) = 16 | now(5) = 1 | shuts(1, 1) = 1 | now(6) = 4 | now(7) = 2
            """);
        edge(14, said, FOUR, MOVED + """
            homes(-1) = 8 | homes(0) = 3 | homes(1) = 1 | homes(2) = 0
            """);
        edge(15, said, FOUR, MOVED + """
            doorAt(0) = 2 | doorAt(1) = 4
            """);
        edge(16, said, FOUR, MOVED + """
            fair(0, 0) = 0 | fair(0, 1) = 1 | fair(1, 0) = 6 | fair(1, 1) = 5 | fair(2, 0) = 54 | fair(2, 1) = 5
            """);
        edge(17, said, FOUR, MOVED + """
            coffin(0) = 7 | coffin(1) = 6 | coffin(2) = 4 | coffin(3) = 4
            """);
        edge(20, said, FOUR, MOVED + """
            hats(3, 99) = 1 | who() = 4 | hats(0, 1) = 2 | who() = 4 | forget() = 2
            hats(0, 99) = 1 | who() = 1
            """);
        edge(22, said, FOUR, MOVED + """
            meet(1, 5, 2, 0) = 1 | meet(2, 5, 1, 0) = 1 | meet(0, 5, 2, 0) = 0 | meet(2, 0, 0, 0) = 0
            """);
        edge(23, said, FOUR, MOVED + """
            odds(0, 5, 1) = 4 | odds(1, 5, 1) = 2 | odds(2, 5, 1) = 1
            """);
        edge(24, said, FOUR, MOVED + """
            mark(1, 0) = 2 | mark(1, 1) = 3 | mark(1, 2) = 3 | mark(1, 3) = 5 | mark(3, 3) = 10
            """);
    }

    /** Every number that a call takes, one at a time far off: BAD (mark: NO), and nothing has changed. */
    private static void farOff() {
        String[] good = {
            "2 type(104)", "5 house(0, 0)", "6 person(0, 0)", "7 steps(0, 0)", "8 shuts(0, 1)", "9 exchanges(0, 1)",
            "10 door(1)", "11 calms(0)", "13 now(0)", "14 homes(0)", "15 doorAt(0)", "16 fair(0, 0)", "17 coffin(0)",
            "18 hats(0, 0)", "22 meet(0, 0, 1, 0)", "23 odds(0, 0, 0)", "24 mark(0, 0)", "25 keep(0)", "26 back(0)",
            "27 count(0)"};
        int[] far = {Integer.MIN_VALUE, Integer.MIN_VALUE + 1, -65536, -256, -10, -2, 256, 65536, 1 << 30,
            Integer.MAX_VALUE - 1, Integer.MAX_VALUE};
        for (String told : good) {
            int blank = told.indexOf(' ');
            Call call = Call.read(told.substring(blank + 1));
            String refusal = call.name.equals("mark") ? "NO" : "BAD";
            for (int i = 0; i < call.numbers.length; i++) {
                StringBuilder rows = new StringBuilder(BUSY);
                for (int number : far) {
                    int[] numbers = call.numbers.clone();
                    numbers[i] = number;
                    rows.append(Call.of(call.name, numbers)).append(" = ").append(refusal).append('\n');
                }
                edge(Integer.parseInt(told.substring(0, blank)), "a number is not as told", FIVE, rows.toString());
            }
        }
    }

    public static void main(String[] args) {
        for (Method m : OneDoor.class.getMethods()) {
            if (m.getDeclaringClass() == OneDoor.class) FACE.put(m.getName(), m);
        }
        newObject();
        type();
        clear();
        houseTexts();
        personTexts();
        taxTexts();
        numberTexts();
        letterTexts();
        blankTexts();
        earlyTexts();
        bytes();
        readAnew();
        house();
        person();
        steps();
        shuts();
        exchanges();
        door();
        calms();
        undo();
        now();
        homes();
        doorAt();
        fair();
        coffin();
        hats();
        forget();
        who();
        bread();
        meet();
        odds();
        mark();
        keep();
        back();
        count();
        trace();
        homesAreNow();
        farOff();
        int all = 0;
        for (int n = 1; n < tests.length; n++) {
            all += tests[n];
            if (tests[n] == 0) {
                wrong++;
                System.out.println("promise " + n + " has no test here");
            }
        }
        System.out.println(all + " edges, " + looked + " answers looked at, " + wrong + " not as due");
        if (wrong != 0) System.exit(1);
    }
}
