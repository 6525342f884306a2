import java.math.BigInteger;
import java.util.ArrayList;
import java.util.Arrays;
import java.util.List;
import java.util.Random;

/**
 * Runs of 512 calls, as many as an object is used for, drawn from fixed seeds, on OneDoor and on a slow model side by
 * side. The model follows the document's words one by one: lists for ways, a row of minutes for each walk, all orders,
 * all subsets.
 */
public final class OneDoorModel {
    static final int BAD = -1, STATE = -2, FULL = -3, NONE = -9, NO = -1000000, STREET = -5;

    /** What is done changes this. */
    static final class Now implements Cloneable {
        int[] place, home, patience;
        int minute, offended, door = NONE;
        boolean[] shut;

        Now copy() {
            Now n = new Now();
            n.place = place.clone();
            n.home = home.clone();
            n.patience = patience.clone();
            n.shut = shut.clone();
            n.minute = minute;
            n.offended = offended;
            n.door = door;
            return n;
        }
    }

    static final class Model {
        final List<Integer> text = new ArrayList<>();
        List<Integer> halls = new ArrayList<>();
        List<int[]> people = new ArrayList<>();
        int tax = 12, warm = 20;
        Now now = fresh();
        List<Now> past = new ArrayList<>();
        final Now[] imageNow = new Now[2];
        final List<List<Now>> imagePast = new ArrayList<>(Arrays.asList(null, null));
        final List<int[]> hats = new ArrayList<>();
        long trace;

        Now fresh() {
            Now n = new Now();
            int size = people.size();
            n.place = new int[size];
            n.home = new int[size];
            n.patience = new int[size];
            for (int p = 0; p < size; p++) {
                n.place[p] = people.get(p)[0];
                n.home[p] = people.get(p)[0];
                n.patience[p] = people.get(p)[2];
            }
            n.shut = new boolean[halls.size()];
            return n;
        }

        boolean isH(int h) {
            return 0 <= h && h < halls.size();
        }

        boolean isP(int p) {
            return 0 <= p && p < people.size();
        }

        int type(int c) {
            if (c < 0 || c > 255) return BAD;
            if (text.size() == 150) return FULL;
            text.add(c);
            return text.size();
        }

        int clear() {
            int n = text.size();
            text.clear();
            return n;
        }

        /** Tokens as place, kind (l, n, ; or ? for none), text. */
        List<String[]> tokens() {
            List<String[]> all = new ArrayList<>();
            StringBuilder s = new StringBuilder();
            for (int c : text) s.append((char) c);
            int i = 0;
            while (i < s.length()) {
                if (s.charAt(i) == ' ') {
                    i++;
                    continue;
                }
                String rest = s.substring(i);
                String found;
                String kind;
                String letters = rest.replaceFirst("(?s)^([a-z]*).*$", "$1");
                String digits = rest.replaceFirst("(?s)^([0-9]*).*$", "$1");
                if (!letters.isEmpty()) {
                    found = letters;
                    kind = "l";
                } else if (!digits.isEmpty()) {
                    found = digits;
                    boolean good = digits.length() <= 2 && (digits.length() == 1 || digits.charAt(0) != '0');
                    kind = good ? "n" : "?";
                } else {
                    found = rest.substring(0, 1);
                    kind = found.equals(";") ? ";" : "?";
                }
                all.add(new String[] {Integer.toString(i), kind, found});
                i += found.length();
            }
            return all;
        }

        int street() {
            List<String[]> tokens = tokens();
            List<Integer> newHalls = new ArrayList<>();
            List<int[]> newPeople = new ArrayList<>();
            int newTax = -1, newWarm = -1, items = 0, i = 0;
            while (i < tokens.size()) {
                String[] head = tokens.get(i);
                String name = head[1].equals("l") ? head[2] : "";
                boolean good = name.equals("h") && newHalls.size() < 9 || name.equals("p") && newPeople.size() < 6
                    || name.equals("t") && newTax < 0 || name.equals("w") && newWarm < 0;
                if (!good) return -10 - Integer.parseInt(head[0]);
                int[][] ranges = name.equals("h") ? new int[][] {{0, 9}}
                    : name.equals("p") ? new int[][] {{0, newHalls.size() - 1}, {0, 9}, {0, 50}}
                    : name.equals("t") ? new int[][] {{0, 99}} : new int[][] {{1, 60}};
                int[] values = new int[ranges.length];
                for (int k = 0; k <= ranges.length; k++) {
                    i++;
                    if (i == tokens.size()) return -10 - text.size();
                    String[] t = tokens.get(i);
                    boolean fits;
                    if (k == ranges.length) {
                        fits = t[1].equals(";");
                    } else {
                        fits = t[1].equals("n");
                        if (fits) {
                            values[k] = Integer.parseInt(t[2]);
                            fits = ranges[k][0] <= values[k] && values[k] <= ranges[k][1];
                        }
                    }
                    if (!fits) return -10 - Integer.parseInt(t[0]);
                }
                i++;
                items++;
                if (name.equals("h")) newHalls.add(values[0]);
                if (name.equals("p")) newPeople.add(values);
                if (name.equals("t")) newTax = values[0];
                if (name.equals("w")) newWarm = values[0];
            }
            halls = newHalls;
            people = newPeople;
            tax = newTax < 0 ? 12 : newTax;
            warm = newWarm < 0 ? 20 : newWarm;
            now = fresh();
            past = new ArrayList<>();
            Arrays.fill(imageNow, null);
            hats.clear();
            text.clear();
            return items;
        }

        // ---- ways: all houses from the door to the last one

        List<Integer> straight(int from, int to) {
            List<Integer> way = new ArrayList<>();
            int h = from;
            way.add(h);
            while (h != to) {
                h += h < to ? 1 : -1;
                way.add(h);
            }
            return way;
        }

        List<List<Integer>> ways(int h, int door) {
            List<List<Integer>> all = new ArrayList<>();
            all.add(straight(0, h));
            if (door != NONE) all.add(straight(door, h));
            return all;
        }

        int minutes(List<Integer> way) {
            int sum = 0;
            for (int i = 0; i + 1 < way.size(); i++) sum += halls.get(way.get(i));
            return sum;
        }

        List<Integer> theWay(int h, int door) {
            List<Integer> best = null;
            for (List<Integer> w : ways(h, door)) if (best == null || minutes(w) < minutes(best)) best = w;
            return best;
        }

        int bits(int[] where, int place) {
            int b = 0;
            for (int p = 0; p < where.length; p++) if (where[p] == place) b += 1 << p;
            return b;
        }

        int house(int h, int what) {
            if (!isH(h) || what < 0 || what > 4) return BAD;
            if (what == 0) return halls.get(h);
            if (what == 1) return bits(now.home, h);
            if (what == 2) return bits(now.place, h);
            if (what == 3) return now.shut[h] ? 1 : 0;
            return minutes(theWay(h, now.door));
        }

        int[] passed(int[] home, int door) {
            int[] n = new int[home.length];
            for (int p = 0; p < home.length; p++) {
                List<Integer> way = theWay(home[p], door);
                for (int trip = 0; trip < 2 * people.get(p)[1]; trip++) {
                    for (int h : way.subList(0, way.size() - 1)) {
                        for (int q = 0; q < home.length; q++) if (home[q] == h) n[q]++;
                    }
                }
            }
            return n;
        }

        int passings(int[] home, int door) {
            return Arrays.stream(passed(home, door)).sum();
        }

        int person(int p, int what) {
            if (!isP(p) || what < 0 || what > 4) return BAD;
            if (what == 0) return now.home[p];
            if (what == 1) return people.get(p)[1];
            if (what == 2) return now.patience[p];
            if (what == 3) return now.place[p];
            return passed(now.home, now.door)[p];
        }

        void remember() {
            past.add(now.copy());
            if (past.size() > 10) past.remove(0);
        }

        int steps(int p, int way) {
            if (!isP(p) || way < 0 || way > 2) return BAD;
            int from = now.place[p];
            int to;
            if (way == 0) {
                if (from == STREET) return STATE;
                to = from == 0 ? STREET : from - 1;
            } else if (way == 1) {
                to = from == STREET ? 0 : from + 1;
                if (to == halls.size()) return STATE;
            } else {
                if (now.door == NONE || from != STREET && from != now.door) return STATE;
                to = from == STREET ? now.door : STREET;
            }
            if (to != STREET && now.shut[to] && now.home[p] != to) return STATE;
            remember();
            if (from != STREET) now.minute += halls.get(from);
            now.place[p] = to;
            for (int q = 0; q < people.size(); q++) {
                if (q == p || now.home[q] != to) continue;
                if (now.patience[q] > 0) now.patience[q]--;
                if (now.patience[q] == 0) now.offended++;
            }
            return to;
        }

        int shuts(int h, int is) {
            if (!isH(h) || is != 0 && is != 1) return BAD;
            if (now.shut[h] == (is == 1)) return STATE;
            remember();
            now.shut[h] = is == 1;
            int n = 0;
            for (boolean s : now.shut) if (s) n++;
            return n;
        }

        int exchanges(int p, int q) {
            if (!isP(p) || !isP(q) || p == q) return BAD;
            remember();
            int h = now.home[p];
            now.home[p] = now.home[q];
            now.home[q] = h;
            return now.home[p];
        }

        int door(int h) {
            if (h != -1 && (h == 0 || !isH(h))) return BAD;
            remember();
            int was = now.door;
            now.door = h == -1 ? NONE : h;
            return was;
        }

        int calms(int p) {
            if (!isP(p)) return BAD;
            remember();
            int was = now.patience[p];
            now.patience[p] = people.get(p)[2];
            return was;
        }

        int undo() {
            if (past.isEmpty()) return STATE;
            now = past.remove(past.size() - 1);
            return past.size();
        }

        int stopped(boolean[] shut) {
            int b = 0;
            for (int p = 0; p < people.size(); p++) {
                int home = now.home[p];
                boolean all = true;
                for (List<Integer> way : ways(home, now.door)) {
                    boolean meets = false;
                    for (int h : way) meets |= shut[h] && h != home;
                    all &= meets;
                }
                if (all) b += 1 << p;
            }
            return b;
        }

        int open() {
            int found = -1;
            for (int set = 0; set < 1 << halls.size(); set++) {
                boolean[] shut = now.shut.clone();
                boolean good = true;
                for (int h = 0; h < halls.size(); h++) {
                    if ((set & 1 << h) == 0) continue;
                    good &= now.shut[h];
                    shut[h] = false;
                }
                if (!good || stopped(shut) != 0) continue;
                if (found < 0 || Integer.bitCount(set) < Integer.bitCount(found)) found = set;
            }
            return found;
        }

        int now(int what) {
            switch (what) {
                case 0: return now.minute;
                case 1: return now.offended;
                case 2: return bits(now.place, STREET);
                case 3: return now.door;
                case 4: return passings(now.home, now.door);
                case 5:
                    int b = 0;
                    int[] n = passed(now.home, now.door);
                    for (int p = 0; p < n.length; p++) if (n[p] > now.patience[p]) b += 1 << p;
                    return b;
                case 6: return stopped(now.shut);
                case 7: return open();
                default: return BAD;
            }
        }

        int[] bestHomes;
        int bestPassings;

        void allOrders(int[] order, int from) {
            if (from == order.length) {
                int[] home = new int[order.length];
                for (int p = 0; p < home.length; p++) home[p] = now.home[order[p]];
                int n = passings(home, now.door);
                if (bestHomes == null || n < bestPassings
                    || n == bestPassings && Arrays.compare(home, bestHomes) < 0) {
                    bestHomes = home;
                    bestPassings = n;
                }
                return;
            }
            for (int i = from; i < order.length; i++) {
                int[] next = order.clone();
                next[from] = order[i];
                next[i] = order[from];
                allOrders(next, from + 1);
            }
        }

        int homes(int p) {
            if (p != -1 && !isP(p)) return BAD;
            if (people.isEmpty()) return NONE;
            int[] order = new int[people.size()];
            for (int i = 0; i < order.length; i++) order[i] = i;
            bestHomes = null;
            allOrders(order, 0);
            return p == -1 ? bestPassings : bestHomes[p];
        }

        int doorAt(int what) {
            if (what != 0 && what != 1) return BAD;
            int least = Integer.MAX_VALUE, at = NONE;
            for (int h = halls.size() - 1; h >= 1; h--) {
                int n = passings(now.home, h);
                if (n <= least) {
                    least = n;
                    at = h;
                }
            }
            if (least >= passings(now.home, NONE)) return NONE;
            return what == 0 ? at : least;
        }

        int least(long upper, long lower, int what) {
            BigInteger g = BigInteger.valueOf(upper).gcd(BigInteger.valueOf(lower));
            return (int) ((what == 0 ? upper : lower) / g.longValueExact());
        }

        int fair(int p, int what) {
            if (!isP(p) || what != 0 && what != 1) return BAD;
            int all = 0, one = 0;
            for (int q = 0; q < people.size(); q++) {
                int e = people.get(q)[1] * minutes(theWay(now.home[q], now.door));
                all += e;
                if (q == p) one = e;
            }
            return all == 0 ? what : least((long) tax * one, all, what);
        }

        int coffin(int h) {
            if (!isH(h)) return BAD;
            int b = 0;
            for (int p = 0; p < people.size(); p++) {
                boolean all = true;
                for (List<Integer> way : ways(now.home[p], now.door)) all &= way.contains(h);
                if (all || now.home[p] == h) b += 1 << p;
            }
            return b;
        }

        int hats(int h, int m) {
            if (!isH(h) || m < 0 || m > 99) return BAD;
            if (hats.size() == 6) return FULL;
            hats.add(new int[] {h, m});
            return hats.size();
        }

        int forget() {
            int n = hats.size();
            hats.clear();
            return n;
        }

        /** Where he is in each minute from 0 on. */
        int[] walkOut(int p, int s) {
            int[] row = new int[200];
            Arrays.fill(row, STREET);
            for (int m = 0; m < s; m++) row[m] = now.home[p];
            List<Integer> way = theWay(now.home[p], now.door);
            int m = s;
            for (int i = way.size() - 2; i >= 0; i--) {
                for (int k = 0; k < halls.get(way.get(i)); k++) row[m++] = way.get(i);
            }
            return row;
        }

        int[] walkIn(int p, int s) {
            int[] row = new int[200];
            Arrays.fill(row, STREET);
            List<Integer> way = theWay(now.home[p], now.door);
            int m = s;
            for (int i = 0; i + 1 < way.size(); i++) {
                for (int k = 0; k < halls.get(way.get(i)); k++) row[m++] = way.get(i);
            }
            while (m < row.length) row[m++] = now.home[p];
            return row;
        }

        boolean fits(int[] row) {
            for (int[] hat : hats) if (row[hat[1]] != hat[0]) return false;
            return true;
        }

        int who() {
            int b = 0;
            for (int p = 0; p < people.size(); p++) {
                boolean any = false;
                for (int s = 0; s <= 60 && !any; s++) any = fits(walkOut(p, s)) || fits(walkIn(p, s));
                if (any) b += 1 << p;
            }
            return b;
        }

        int bread() {
            int b = 0;
            for (int h = 0; h < halls.size(); h++) if (house(h, 4) <= warm) b += 1 << h;
            return b;
        }

        int meet(int p, int a, int q, int b) {
            if (!isP(p) || !isP(q) || p == q || a < 0 || a > 60 || b < 0 || b > 60) return BAD;
            int[] out = walkOut(p, a);
            int[] in = walkIn(q, b);
            for (int m = 0; m < out.length; m++) if (out[m] == in[m] && out[m] != STREET) return out[m];
            return NONE;
        }

        int odds(int p, int x, int what) {
            if (!isP(p) || x < 0 || x > 10 || what != 0 && what != 1) return BAD;
            long upper = 0, lower = 1;
            for (int q = 0; q < people.size(); q++) if (q != p) lower *= 10;
            for (int set = 0; set < 1 << people.size(); set++) {
                if ((set & 1 << p) != 0) continue;
                long weight = 1;
                boolean met = false;
                for (int q = 0; q < people.size(); q++) {
                    if (q == p) continue;
                    boolean goes = (set & 1 << q) != 0;
                    weight *= goes ? x : 10 - x;
                    List<Integer> way = theWay(now.home[q], now.door);
                    met |= goes && way.subList(0, way.size() - 1).contains(now.home[p]);
                }
                if (!met) upper += weight;
            }
            return least(upper, lower, what);
        }

        int mark(int kind, int h) {
            if (kind < 0 || kind > 5 || !isH(h)) return NO;
            int hall = halls.get(h);
            int live = Integer.bitCount(bits(now.home, h));
            switch (kind) {
                case 0: trace += 1; return hall;
                case 1: trace += 11; return hall + live;
                case 2: trace += 101; return hall - h;
                case 3: trace += 1011; return (hall + live) * 2;
                case 4: trace += 10101; return hall - h + (now.shut[h] ? 9 : 0);
                default: trace += 100001; return hall + now.offended;
            }
        }

        List<Now> copyOf(List<Now> some) {
            List<Now> all = new ArrayList<>();
            for (Now n : some) all.add(n.copy());
            return all;
        }

        int keep(int i) {
            if (i != 0 && i != 1) return BAD;
            imageNow[i] = now.copy();
            imagePast.set(i, copyOf(past));
            return now.minute;
        }

        int back(int i) {
            if (i != 0 && i != 1) return BAD;
            if (imageNow[i] == null) return STATE;
            now = imageNow[i].copy();
            past = copyOf(imagePast.get(i));
            return now.minute;
        }

        int count(int what) {
            int[] all = {halls.size(), people.size(), tax, warm, hats.size(), past.size(), text.size()};
            return what < 0 || what >= all.length ? BAD : all[what];
        }
    }

    // ---- the runs

    private static final int MOST_CALLS = 512;

    private final Random random;
    private final int run;
    /** How many calls of a hundred do something, and what most of these do (none, if beyond all). */
    private final int doing, mostly;
    private final OneDoor x = new OneDoor();
    private final Model m = new Model();
    private final StringBuilder log = new StringBuilder();
    private int calls;
    private int wrong;

    private OneDoorModel(int run) {
        this.run = run;
        this.random = new Random(7919L * run + 13);
        this.doing = 5 + random.nextInt(91);
        this.mostly = random.nextInt(20);
    }

    private int room() {
        return MOST_CALLS - calls;
    }

    private void due(String call, long got, long want) {
        calls++;
        if (got != want) {
            if (wrong == 0) System.out.println("run " + run + " so far: " + log);
            wrong++;
            System.out.println("run " + run + ": " + call + " answered " + got + ", due is " + want);
        }
        log.append(call).append(' ');
    }

    /** Mostly small and as told, at times just beside it or far off. */
    private int near(int below) {
        int roll = random.nextInt(40);
        if (roll == 0) return -1;
        if (roll == 1) return below;
        if (roll == 2) return random.nextInt();
        if (roll == 3) return random.nextBoolean() ? Integer.MIN_VALUE : Integer.MAX_VALUE;
        return below <= 0 ? 0 : random.nextInt(below);
    }

    private String goodText() {
        StringBuilder s = new StringBuilder();
        int houses = 1 + random.nextInt(9);
        int people = random.nextInt(7);
        int top = random.nextInt(3) == 0 ? 2 : 10;
        int patience = random.nextInt(2) == 0 ? 4 : 51;
        if (random.nextInt(3) == 0) s.append("t").append(random.nextInt(100)).append(";");
        int told = 0, given = 0;
        while (told < houses || given < people) {
            if (told < houses && (told == 0 || given == people || random.nextInt(4) > 0)) {
                s.append("h").append(random.nextInt(top)).append(";");
                told++;
            } else {
                s.append("p").append(random.nextInt(told)).append(' ').append(random.nextInt(10)).append(' ')
                    .append(random.nextInt(patience)).append(";");
                given++;
            }
        }
        if (random.nextInt(3) == 0) s.append("w").append(1 + random.nextInt(60)).append(";");
        return s.toString();
    }

    private static final String SIGNS = "hptw;; 0123456789 ahA-\n\u00e9\u0000";

    private String spoil(String good) {
        StringBuilder s = new StringBuilder(good);
        for (int n = random.nextInt(3); n >= 0; n--) {
            int at = random.nextInt(s.length() + 1);
            char sign = SIGNS.charAt(random.nextInt(SIGNS.length()));
            int roll = random.nextInt(4);
            if (roll == 0 && at < s.length()) s.deleteCharAt(at);
            else if (roll == 1 && at < s.length()) s.setCharAt(at, sign);
            else if (roll == 2) s.setLength(at);
            else s.insert(at, sign);
        }
        return s.toString();
    }

    private String anyText() {
        int roll = random.nextInt(10);
        if (roll == 0) return "";
        if (roll < 6) return goodText();
        if (roll < 9) return spoil(goodText());
        StringBuilder s = new StringBuilder();
        for (int n = random.nextInt(20); n > 0; n--) s.append(SIGNS.charAt(random.nextInt(SIGNS.length())));
        return s.toString();
    }

    private void typeOne(int c) {
        if (room() > 0) due("type(" + c + ")", x.type(c), m.type(c));
    }

    private void typeAll(String text) {
        for (char c : text.toCharArray()) typeOne(c);
    }

    private void tell() {
        typeAll(anyText());
        if (random.nextInt(20) == 0) typeOne(near(256));
        if (room() > 0) due("street()", x.street(), m.street());
        if (room() > 0 && random.nextInt(2) == 0) due("clear()", x.clear(), m.clear());
    }

    private void act() {
        int p = near(m.people.size());
        int h = near(m.halls.size());
        int w = near(3);
        int i = near(2);
        switch (mostly < 10 && random.nextInt(4) > 0 ? mostly : random.nextInt(10)) {
            case 0, 1, 2, 3:
                due("steps(" + p + ", " + w + ")", x.steps(p, w), m.steps(p, w));
                break;
            case 4:
                due("shuts(" + h + ", " + i + ")", x.shuts(h, i), m.shuts(h, i));
                break;
            case 5:
                int q = near(m.people.size());
                due("exchanges(" + p + ", " + q + ")", x.exchanges(p, q), m.exchanges(p, q));
                break;
            case 6:
                due("door(" + h + ")", x.door(h), m.door(h));
                break;
            case 7:
                due("calms(" + p + ")", x.calms(p), m.calms(p));
                break;
            case 8:
                due("undo()", x.undo(), m.undo());
                break;
            default:
                if (random.nextInt(2) == 0) due("keep(" + i + ")", x.keep(i), m.keep(i));
                else due("back(" + i + ")", x.back(i), m.back(i));
                break;
        }
    }

    private void ask() {
        int p = near(m.people.size());
        int h = near(m.halls.size());
        int i = near(2);
        int w = near(8);
        switch (random.nextInt(14)) {
            case 0: due("house(" + h + ", " + w + ")", x.house(h, w), m.house(h, w)); break;
            case 1: due("person(" + p + ", " + w + ")", x.person(p, w), m.person(p, w)); break;
            case 2, 3: due("now(" + w + ")", x.now(w), m.now(w)); break;
            case 4: due("homes(" + p + ")", x.homes(p), m.homes(p)); break;
            case 5: due("doorAt(" + i + ")", x.doorAt(i), m.doorAt(i)); break;
            case 6: due("fair(" + p + ", " + i + ")", x.fair(p, i), m.fair(p, i)); break;
            case 7: due("coffin(" + h + ")", x.coffin(h), m.coffin(h)); break;
            case 8:
                int minute = near(random.nextInt(2) == 0 ? 100 : 20);
                due("hats(" + h + ", " + minute + ")", x.hats(h, minute), m.hats(h, minute));
                if (room() > 0) due("who()", x.who(), m.who());
                if (room() > 0 && random.nextInt(3) == 0) due("forget()", x.forget(), m.forget());
                break;
            case 9: due("bread()", x.bread(), m.bread()); break;
            case 10:
                int q = near(m.people.size()), a = near(61), b = near(61);
                due("meet(" + p + ", " + a + ", " + q + ", " + b + ")", x.meet(p, a, q, b), m.meet(p, a, q, b));
                break;
            case 11:
                int chance = near(11);
                due("odds(" + p + ", " + chance + ", " + i + ")", x.odds(p, chance, i), m.odds(p, chance, i));
                break;
            case 12:
                int kind = near(6);
                due("mark(" + kind + ", " + h + ")", x.mark(kind, h), m.mark(kind, h));
                if (room() > 0) due("trace()", x.trace(), m.trace);
                break;
            default: due("count(" + w + ")", x.count(w), m.count(w)); break;
        }
    }

    /** Everything that shows the state, as far as there is room, so that a refused call that changed some of it is seen. */
    private void look() {
        for (int i = 0; i < 5 * m.halls.size() && room() > 0; i++) {
            int h = i / 5, w = i % 5;
            due("house(" + h + ", " + w + ")", x.house(h, w), m.house(h, w));
        }
        for (int i = 0; i < 5 * m.people.size() && room() > 0; i++) {
            int p = i / 5, w = i % 5;
            due("person(" + p + ", " + w + ")", x.person(p, w), m.person(p, w));
        }
        for (int w = 0; w < 8 && room() > 0; w++) due("now(" + w + ")", x.now(w), m.now(w));
        for (int w = 0; w < 7 && room() > 0; w++) due("count(" + w + ")", x.count(w), m.count(w));
    }

    private int go() {
        if (random.nextInt(10) > 0) {
            typeAll(goodText());
            due("street()", x.street(), m.street());
        }
        int lookAt = random.nextInt(2) == 0 ? 91 : 0;
        while (room() > lookAt && wrong == 0) {
            int roll = random.nextInt(200);
            if (roll == 0) tell();
            else if (random.nextInt(100) < doing) act();
            else ask();
        }
        if (wrong == 0) look();
        return end();
    }

    /** Texts alone, many of them spoiled. */
    private int goTexts() {
        while (room() > 0 && wrong == 0) tell();
        return end();
    }

    /** What room there is left goes to questions, so that the last call is reached. */
    private int end() {
        while (room() > 0 && wrong == 0) ask();
        if (room() != 0 && wrong == 0) {
            wrong++;
            System.out.println("run " + run + " made " + calls + " calls");
        }
        return wrong;
    }

    public static void main(String[] args) {
        int wrong = 0;
        int runs = args.length > 0 ? Integer.parseInt(args[0]) : 1500;
        for (int run = 0; run < runs; run++) wrong += new OneDoorModel(run).go();
        for (int run = 0; run < runs; run++) wrong += new OneDoorModel(-1 - run).goTexts();
        System.out.println(wrong == 0 ? runs + " runs are as the model's" : wrong + " answers are not as the model's");
        if (wrong != 0) System.exit(1);
    }
}
