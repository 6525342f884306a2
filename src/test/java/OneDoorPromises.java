/** Each promise of the document: ordinary inputs, the edges that it names, and wrong inputs. */
public final class OneDoorPromises {
    private static final int BAD = -1, STATE = -2, FULL = -3, NONE = -9, NO = -1000000, STREET = -5;
    private static final int LOW = Integer.MIN_VALUE, HIGH = Integer.MAX_VALUE;

    private static int promise;
    private static int wrong;
    private static int looked;

    private static void due(String call, long got, long want) {
        looked++;
        if (got != want) {
            wrong++;
            System.out.println("promise " + promise + ": " + call + " answered " + got + ", due is " + want);
        }
    }

    private static OneDoor typed(OneDoor x, String text) {
        for (char c : text.toCharArray()) x.type(c);
        return x;
    }

    private static OneDoor told(String text) {
        OneDoor x = typed(new OneDoor(), text);
        due("street() of " + text + " told", x.street() >= 0 ? 1 : 0, 1);
        return x;
    }

    private static void fault(String text, int place) {
        OneDoor x = typed(new OneDoor(), text);
        due("street() of '" + text + "'", x.street(), -10 - place);
        due("bytes after '" + text + "'", x.count(6), text.length());
        due("houses after '" + text + "'", x.count(0), 0);
    }

    private static void items(String text, int n) {
        OneDoor x = typed(new OneDoor(), text);
        due("street() of '" + text + "'", x.street(), n);
        due("bytes after '" + text + "'", x.count(6), 0);
    }

    /** Five houses 2 3 1 4 5, people in 3, 1, 4, 1. */
    private static OneDoor five() {
        return told("h2;h3;h1;h4;h5;p3 2 3;p1 1 9;p4 3 50;p1 0 2;t20;w6;");
    }

    private static void newObject() {
        promise = 1;
        OneDoor x = new OneDoor();
        int[] counts = {0, 0, 12, 20, 0, 0, 0};
        for (int w = 0; w < counts.length; w++) due("count(" + w + ")", x.count(w), counts[w]);
        int[] nows = {0, 0, 0, NONE, 0, 0, 0, 0};
        for (int w = 0; w < nows.length; w++) due("now(" + w + ")", x.now(w), nows[w]);
        due("trace()", x.trace(), 0);
        due("house(0, 0)", x.house(0, 0), BAD);
        due("person(0, 0)", x.person(0, 0), BAD);
        due("steps(0, 0)", x.steps(0, 0), BAD);
        due("shuts(0, 1)", x.shuts(0, 1), BAD);
        due("coffin(0)", x.coffin(0), BAD);
        due("hats(0, 0)", x.hats(0, 0), BAD);
        due("mark(0, 0)", x.mark(0, 0), NO);
        due("undo()", x.undo(), STATE);
        due("back(0)", x.back(0), STATE);
        due("back(1)", x.back(1), STATE);
        due("keep(0)", x.keep(0), 0);
        due("back(0)", x.back(0), 0);
    }

    private static void type() {
        promise = 2;
        OneDoor x = new OneDoor();
        due("type(-1)", x.type(-1), BAD);
        due("type(256)", x.type(256), BAD);
        due("type(LOW)", x.type(LOW), BAD);
        due("type(HIGH)", x.type(HIGH), BAD);
        due("type(0)", x.type(0), 1);
        due("type(255)", x.type(255), 2);
        for (int i = 3; i <= 150; i++) due("type(32)", x.type(32), i);
        due("type(32)", x.type(32), FULL);
        due("type(256)", x.type(256), BAD);
        due("count(6)", x.count(6), 150);
    }

    private static void clear() {
        promise = 3;
        OneDoor x = typed(new OneDoor(), "h1;");
        due("clear()", x.clear(), 3);
        due("clear()", x.clear(), 0);
        due("street()", x.street(), 0);
        typed(x, "h");
        due("clear()", x.clear(), 1);
        typed(x, "h4;");
        due("street()", x.street(), 1);
        due("clear()", x.clear(), 0);
        due("house(0, 0)", x.house(0, 0), 4);
    }

    private static void texts() {
        promise = 4;
        items("", 0);
        items("    ", 0);
        items("h0;", 1);
        items("  h  9  ;  p  0  0  0  ;  ", 2);
        items("t0;w1;h9;p0 9 50;", 4);
        items("t99;w60;", 2);
        items("h1;h2;h3;h4;h5;h6;h7;h8;h9;p0 0 0;p1 0 0;p2 0 0;p3 0 0;p4 0 0;p8 0 0;t1;w2;", 17);
        fault("h", 1);
        fault("h ", 2);
        fault("h1", 2);
        fault("h1;p0 1", 7);
        fault("h10;", 1);
        fault("h 10;", 2);
        fault("h100;", 1);
        fault("h00;", 1);
        fault("h99999999999999999999;", 1);
        fault("h4294967297;", 1);
        fault("t100;", 1);
        fault("t010;", 1);
        fault("t1 0;", 3);
        fault("w0;", 1);
        fault("w61;", 1);
        fault("t1;t1;", 3);
        fault("w1;t1;w1;", 6);
        fault("p0 0 0;", 1);
        fault("h1;p1 0 0;h1;", 4);
        fault("h1;p0 10 0;", 6);
        fault("h1;p0 0 51;", 8);
        fault("h1;p0 0 50 0;", 11);
        fault("ht1;", 0);
        fault("ha1;", 0);
        fault("hz1;", 0);
        fault("hz", 0);
        fault("h1;x1;", 3);
        fault("h1;;", 3);
        fault(";", 0);
        fault("7", 0);
        fault("hh;", 0);
        fault("h;", 1);
        fault("hA;", 1);
        fault("h1A;", 2);
        fault("H1;", 0);
        fault("h-1;", 1);
        fault("h\u00e9;", 1);
        fault("h1;\n", 3);
        fault("h1h2;", 2);
        fault("h1;h1;h1;h1;h1;h1;h1;h1;h1;h1;", 27);
        fault("h1;p0 0 0;p0 0 0;p0 0 0;p0 0 0;p0 0 0;p0 0 0;p", 45);
        readAnew();
        faultChangesNothing();
    }

    private static void readAnew() {
        OneDoor x = five();
        x.steps(0, 0);
        x.shuts(1, 1);
        x.door(2);
        x.keep(0);
        x.keep(1);
        x.hats(0, 1);
        x.mark(0, 0);
        typed(x, "h7;p0 1 2;");
        due("street()", x.street(), 2);
        int[] counts = {1, 1, 12, 20, 0, 0, 0};
        for (int w = 0; w < counts.length; w++) due("count(" + w + ") anew", x.count(w), counts[w]);
        due("now(0) anew", x.now(0), 0);
        due("now(3) anew", x.now(3), NONE);
        due("house(0, 3) anew", x.house(0, 3), 0);
        due("person(0, 3) anew", x.person(0, 3), 0);
        due("back(0) anew", x.back(0), STATE);
        due("back(1) anew", x.back(1), STATE);
        due("undo() anew", x.undo(), STATE);
        due("trace() stays", x.trace(), 1);
    }

    private static void faultChangesNothing() {
        OneDoor x = five();
        x.steps(2, 0);
        x.hats(0, 1);
        x.keep(0);
        typed(x, "t1;w2;h7;p0 1 2;x");
        due("street()", x.street(), -26);
        int[] counts = {5, 4, 20, 6, 1, 1, 17};
        for (int w = 0; w < counts.length; w++) due("count(" + w + ") at a fault", x.count(w), counts[w]);
        due("house(0, 0) at a fault", x.house(0, 0), 2);
        due("person(0, 0) at a fault", x.person(0, 0), 3);
        due("now(0) at a fault", x.now(0), 5);
        due("back(0) at a fault", x.back(0), 5);
    }

    private static void house() {
        promise = 5;
        OneDoor x = five();
        int[][] all = {{2, 0, 0, 0, 0}, {3, 10, 10, 0, 2}, {1, 0, 0, 0, 5}, {4, 1, 1, 0, 6}, {5, 4, 4, 0, 10}};
        for (int h = 0; h < 5; h++) {
            for (int w = 0; w < 5; w++) due("house(" + h + ", " + w + ")", x.house(h, w), all[h][w]);
            due("house(h, 5)", x.house(h, 5), BAD);
            due("house(h, -1)", x.house(h, -1), BAD);
        }
        due("house(5, 0)", x.house(5, 0), BAD);
        due("house(-1, 0)", x.house(-1, 0), BAD);
        due("house(HIGH, LOW)", x.house(HIGH, LOW), BAD);
        x.shuts(2, 1);
        due("house(2, 3)", x.house(2, 3), 1);
        x.steps(1, 0);
        due("house(1, 1)", x.house(1, 1), 10);
        due("house(1, 2)", x.house(1, 2), 8);
        due("house(0, 2)", x.house(0, 2), 2);
        // To 2: by 0 it is 5; by 3 it is 4.  To 1: by 0 it is 2.
        x.door(3);
        int[] minutes = {0, 2, 4, 0, 4};
        for (int h = 0; h < 5; h++) due("house(" + h + ", 4)", x.house(h, 4), minutes[h]);
    }

    private static void person() {
        promise = 6;
        OneDoor x = five();
        int[][] all = {{3, 2, 3, 3, 6}, {1, 1, 9, 1, 10}, {4, 3, 50, 4, 0}, {1, 0, 2, 1, 10}};
        for (int p = 0; p < 4; p++) {
            for (int w = 0; w < 5; w++) due("person(" + p + ", " + w + ")", x.person(p, w), all[p][w]);
        }
        due("person(4, 0)", x.person(4, 0), BAD);
        due("person(-1, 0)", x.person(-1, 0), BAD);
        due("person(0, 5)", x.person(0, 5), BAD);
        due("person(0, -1)", x.person(0, -1), BAD);
        due("person(LOW, HIGH)", x.person(LOW, HIGH), BAD);
        x.steps(1, 0);
        x.steps(1, 0);
        due("person(1, 3)", x.person(1, 3), STREET);
        due("person(1, 4)", x.person(1, 4), 10);
        // Ways of as many minutes: by HOUSE 0, so who lives there is passed.
        x = told("h3;h1;h3;p1 2 0;p0 0 0;p2 0 0;");
        x.door(2);
        due("person(1, 4), alike ways", x.person(1, 4), 4);
        due("person(2, 4), alike ways", x.person(2, 4), 0);
        // A hall of 0 minutes is passed all the same.
        x = told("h0;h0;p1 1 0;p0 0 0;");
        x.door(1);
        due("person(1, 4), no minutes", x.person(1, 4), 2);
    }

    private static void steps() {
        promise = 7;
        OneDoor x = told("h2;h3;h5;p2 1 1;p1 1 2;p1 1 0;p0 1 0;");
        due("steps(4, 0)", x.steps(4, 0), BAD);
        due("steps(-1, 0)", x.steps(-1, 0), BAD);
        due("steps(0, 3)", x.steps(0, 3), BAD);
        due("steps(0, -1)", x.steps(0, -1), BAD);
        due("steps(LOW, HIGH)", x.steps(LOW, HIGH), BAD);
        due("steps(0, 1) at the top", x.steps(0, 1), STATE);
        due("steps(0, 2) without it", x.steps(0, 2), STATE);
        due("now(0)", x.now(0), 0);
        due("steps(0, 0)", x.steps(0, 0), 1);
        due("now(0)", x.now(0), 5);
        due("now(1)", x.now(1), 1);
        due("person(1, 2)", x.person(1, 2), 1);
        due("person(2, 2)", x.person(2, 2), 0);
        due("steps(0, 0)", x.steps(0, 0), 0);
        due("now(1)", x.now(1), 2);
        due("steps(0, 0)", x.steps(0, 0), STREET);
        due("now(0)", x.now(0), 10);
        due("steps(0, 0) from the street", x.steps(0, 0), STATE);
        x.shuts(0, 1);
        due("steps(0, 1) shut", x.steps(0, 1), STATE);
        due("steps(3, 0) out of a shut one", x.steps(3, 0), STREET);
        due("steps(3, 1) his home", x.steps(3, 1), 0);
        x.door(1);
        due("steps(0, 2)", x.steps(0, 2), 1);
        due("now(0), from the street", x.now(0), 12);
        due("person(1, 2)", x.person(1, 2), 0);
        due("now(1)", x.now(1), 4);
        due("steps(0, 2)", x.steps(0, 2), STREET);
        due("now(0)", x.now(0), 15);
        due("steps(3, 2) from elsewhere", x.steps(3, 2), STATE);
        x.shuts(1, 1);
        due("steps(0, 2) shut", x.steps(0, 2), STATE);
        due("steps(1, 1)", x.steps(1, 1), 2);
        due("person(0, 2), away from home", x.person(0, 2), 0);
        due("now(1)", x.now(1), 5);
        due("steps(1, 0) his own", x.steps(1, 0), 1);
        due("person(1, 2), his own", x.person(1, 2), 0);
        due("now(1)", x.now(1), 6);
        due("count(5)", x.count(5), 10);
    }

    private static void shuts() {
        promise = 8;
        OneDoor x = told("h1;h1;h1;");
        due("shuts(0, 0)", x.shuts(0, 0), STATE);
        due("shuts(0, 1)", x.shuts(0, 1), 1);
        due("shuts(0, 1)", x.shuts(0, 1), STATE);
        due("shuts(2, 1)", x.shuts(2, 1), 2);
        due("shuts(0, 0)", x.shuts(0, 0), 1);
        due("shuts(3, 1)", x.shuts(3, 1), BAD);
        due("shuts(-1, 1)", x.shuts(-1, 1), BAD);
        due("shuts(0, 2)", x.shuts(0, 2), BAD);
        due("shuts(0, -1)", x.shuts(0, -1), BAD);
        due("shuts(HIGH, 1)", x.shuts(HIGH, 1), BAD);
        due("count(5)", x.count(5), 3);
    }

    private static void exchanges() {
        promise = 9;
        OneDoor x = five();
        due("exchanges(0, 0)", x.exchanges(0, 0), BAD);
        due("exchanges(0, 4)", x.exchanges(0, 4), BAD);
        due("exchanges(-1, 0)", x.exchanges(-1, 0), BAD);
        due("exchanges(0, LOW)", x.exchanges(0, LOW), BAD);
        due("count(5)", x.count(5), 0);
        due("exchanges(0, 2)", x.exchanges(0, 2), 4);
        due("person(2, 0)", x.person(2, 0), 3);
        due("person(0, 3) stays", x.person(0, 3), 3);
        due("person(2, 3) stays", x.person(2, 3), 4);
        due("person(0, 2) stays", x.person(0, 2), 3);
        due("exchanges(1, 3) of one home", x.exchanges(1, 3), 1);
        due("count(5)", x.count(5), 2);
        due("now(4)", x.now(4), 6 * 2 + 4 * 3);
    }

    private static void door() {
        promise = 10;
        OneDoor x = five();
        due("door(0)", x.door(0), BAD);
        due("door(5)", x.door(5), BAD);
        due("door(-2)", x.door(-2), BAD);
        due("door(NONE)", x.door(NONE), BAD);
        due("door(HIGH)", x.door(HIGH), BAD);
        due("count(5)", x.count(5), 0);
        due("door(4)", x.door(4), NONE);
        due("now(3)", x.now(3), 4);
        due("door(4)", x.door(4), 4);
        due("door(1)", x.door(1), 4);
        due("door(-1)", x.door(-1), 1);
        due("now(3)", x.now(3), NONE);
        due("door(-1)", x.door(-1), NONE);
        due("count(5)", x.count(5), 5);
    }

    private static void calms() {
        promise = 11;
        OneDoor x = told("h1;h1;p0 1 2;p1 1 1;");
        x.steps(1, 0);
        due("calms(0)", x.calms(0), 1);
        due("person(0, 2)", x.person(0, 2), 2);
        due("calms(0)", x.calms(0), 2);
        due("calms(2)", x.calms(2), BAD);
        due("calms(-1)", x.calms(-1), BAD);
        due("calms(LOW)", x.calms(LOW), BAD);
        due("count(5)", x.count(5), 3);
        x.exchanges(0, 1);
        x.steps(1, 1);
        due("calms(0), his own after an exchange", x.calms(0), 1);
        due("person(0, 2)", x.person(0, 2), 2);
    }

    private static void undo() {
        promise = 12;
        OneDoor x = five();
        due("undo()", x.undo(), STATE);
        x.steps(2, 0);
        x.shuts(4, 1);
        x.exchanges(0, 1);
        x.door(2);
        x.calms(0);
        due("undo() of calms", x.undo(), 4);
        due("person(0, 2)", x.person(0, 2), 2);
        due("undo() of door", x.undo(), 3);
        due("now(3)", x.now(3), NONE);
        due("undo() of exchanges", x.undo(), 2);
        due("person(0, 0)", x.person(0, 0), 3);
        due("undo() of shuts", x.undo(), 1);
        due("house(4, 3)", x.house(4, 3), 0);
        due("undo() of steps", x.undo(), 0);
        due("now(0)", x.now(0), 0);
        due("person(0, 2)", x.person(0, 2), 3);
        due("person(2, 3)", x.person(2, 3), 4);
        due("undo()", x.undo(), STATE);
        for (int h = 0; h < 12; h++) x.door(1 + h % 4);
        due("count(5)", x.count(5), 10);
        for (int left = 9; left >= 0; left--) due("undo()", x.undo(), left);
        due("now(3), two are lost", x.now(3), 2);
        due("undo()", x.undo(), STATE);
        x = told("h1;h1;p0 1 0;p1 1 0;");
        x.steps(1, 0);
        due("now(1)", x.now(1), 1);
        x.undo();
        due("now(1) undone", x.now(1), 0);
    }

    private static void now() {
        promise = 13;
        OneDoor x = five();
        due("now(-1)", x.now(-1), BAD);
        due("now(8)", x.now(8), BAD);
        due("now(LOW)", x.now(LOW), BAD);
        due("now(HIGH)", x.now(HIGH), BAD);
        due("now(4)", x.now(4), 26);
        due("now(5)", x.now(5), 11);
        x.shuts(2, 1);
        due("now(6)", x.now(6), 5);
        due("now(7)", x.now(7), 4);
        x.shuts(0, 1);
        due("now(6)", x.now(6), 15);
        due("now(7)", x.now(7), 5);
        x.door(3);
        due("now(6), the other door", x.now(6), 10);
        due("now(7), the other door", x.now(7), 1);
        x.shuts(3, 1);
        due("now(6), its house is shut", x.now(6), 14);
        // Opening 3 frees who lives in 4, but not those in 1; opening 0 frees these alone.
        due("now(7), its house is shut", x.now(7), 9);
        // One of two is enough: the least.
        x = told("h1;h1;h1;h1;h1;p2 1 1;");
        x.door(4);
        x.shuts(1, 1);
        x.shuts(3, 1);
        due("now(6), one in the middle", x.now(6), 1);
        due("now(7), of as few the least", x.now(7), 2);
        x.shuts(0, 1);
        due("now(7), the fewest", x.now(7), 8);
        x.shuts(2, 1);
        due("now(6), his home shuts out nobody", x.now(6), 1);
        x.steps(0, 0);
        due("now(2)", x.now(2), 0);
    }

    private static void homes() {
        promise = 14;
        due("homes(-1), nobody", new OneDoor().homes(-1), NONE);
        due("homes(0), nobody", new OneDoor().homes(0), BAD);
        due("homes(-1), empty houses", told("h1;h2;").homes(-1), NONE);
        OneDoor x = five();
        due("homes(-2)", x.homes(-2), BAD);
        due("homes(4)", x.homes(4), BAD);
        due("homes(LOW)", x.homes(LOW), BAD);
        int[] best = {1, 3, 1, 4};
        due("homes(-1)", x.homes(-1), 4);
        for (int p = 0; p < 4; p++) due("homes(" + p + ")", x.homes(p), best[p]);
        due("person(0, 0) stays", x.person(0, 0), 3);
        due("now(4) stays", x.now(4), 26);
        // As many whatever is done: the first.
        x = told("h1;h1;h1;p2 1 0;p0 1 0;p1 1 0;");
        due("homes(-1), alike", x.homes(-1), 6);
        for (int p = 0; p < 3; p++) due("homes(" + p + "), alike", x.homes(p), p);
        x.door(2);
        due("homes(-1) by the other door", x.homes(-1), 2);
        x.exchanges(0, 1);
        due("homes(0) NOW", x.homes(0), 0);
    }

    private static void doorAt() {
        promise = 15;
        OneDoor x = five();
        due("doorAt(0)", x.doorAt(0), 4);
        due("doorAt(1)", x.doorAt(1), 4);
        due("doorAt(2)", x.doorAt(2), BAD);
        due("doorAt(-1)", x.doorAt(-1), BAD);
        due("doorAt(HIGH)", x.doorAt(HIGH), BAD);
        x.door(4);
        due("doorAt(0), there is one", x.doorAt(0), 4);
        due("now(3) stays", x.now(3), 4);
        due("doorAt(0), nobody", told("h1;h1;").doorAt(0), NONE);
        due("doorAt(1), nobody is passed", told("h1;h1;p1 9 0;").doorAt(1), NONE);
        // 1 and 2 leave none: the lowest.
        x = told("h1;h1;h1;p2 1 0;p0 0 0;");
        due("doorAt(0), the lowest", x.doorAt(0), 1);
        due("doorAt(1), the lowest", x.doorAt(1), 0);
    }

    private static void fair() {
        promise = 16;
        OneDoor x = five();
        // 2 * 6, 1 * 2, 3 * 10, 0 * 2 of 44; the tax is 20.
        int[][] all = {{60, 11}, {10, 11}, {150, 11}, {0, 1}};
        for (int p = 0; p < 4; p++) {
            for (int w = 0; w < 2; w++) due("fair(" + p + ", " + w + ")", x.fair(p, w), all[p][w]);
        }
        due("fair(4, 0)", x.fair(4, 0), BAD);
        due("fair(-1, 0)", x.fair(-1, 0), BAD);
        due("fair(0, 2)", x.fair(0, 2), BAD);
        due("fair(0, -1)", x.fair(0, -1), BAD);
        x = told("h4;p0 9 1;");
        due("fair(0, 0), all is 0", x.fair(0, 0), 0);
        due("fair(0, 1), all is 0", x.fair(0, 1), 1);
        x = told("h4;h1;p1 9 1;t0;");
        due("fair(0, 0), no tax", x.fair(0, 0), 0);
        due("fair(0, 1), no tax", x.fair(0, 1), 1);
        x = told("h4;h1;p1 9 1;");
        due("fair(0, 0), he alone", x.fair(0, 0), 12);
        due("fair(0, 1), he alone", x.fair(0, 1), 1);
    }

    private static void coffin() {
        promise = 17;
        OneDoor x = five();
        int[] all = {15, 15, 5, 5, 4};
        for (int h = 0; h < 5; h++) due("coffin(" + h + ")", x.coffin(h), all[h]);
        x.door(3);
        x.shuts(0, 1);
        int[] other = {0, 10, 0, 5, 4};
        for (int h = 0; h < 5; h++) due("coffin(" + h + ") with a door at 3", x.coffin(h), other[h]);
        due("coffin(5)", x.coffin(5), BAD);
        due("coffin(-1)", x.coffin(-1), BAD);
        due("coffin(LOW)", x.coffin(LOW), BAD);
    }

    private static void hats() {
        promise = 18;
        OneDoor x = five();
        due("hats(5, 0)", x.hats(5, 0), BAD);
        due("hats(-1, 0)", x.hats(-1, 0), BAD);
        due("hats(0, 100)", x.hats(0, 100), BAD);
        due("hats(0, -1)", x.hats(0, -1), BAD);
        for (int n = 1; n <= 6; n++) due("hats(4, 99)", x.hats(4, 99), n);
        due("hats(0, 0)", x.hats(0, 0), FULL);
        due("hats(0, 100)", x.hats(0, 100), BAD);
        x.undo();
        due("count(4)", x.count(4), 6);
    }

    private static void forget() {
        promise = 19;
        OneDoor x = five();
        due("forget()", x.forget(), 0);
        x.hats(0, 1);
        x.hats(4, 1);
        due("who()", x.who(), 0);
        due("forget()", x.forget(), 2);
        due("count(4)", x.count(4), 0);
        due("who()", x.who(), 15);
        due("hats(1, 1)", x.hats(1, 1), 1);
    }

    private static void who() {
        promise = 20;
        OneDoor x = five();
        due("who(), no hats", x.who(), 15);
        x.hats(4, 99);
        due("who(), home for good", x.who(), 4);
        x.hats(4, 0);
        due("who(), not there at 0", x.who(), 0);
        x.forget();
        // Out from 3 at 0: 2 in 0, 1 in 1 .. 3, 0 in 4 .. 5.
        x.hats(2, 0);
        due("who(), out at 0", x.who(), 1);
        x.hats(1, 1);
        due("who(), out at 0", x.who(), 1);
        x.hats(1, 3);
        x.hats(0, 4);
        x.hats(0, 5);
        due("who(), out at 0", x.who(), 1);
        x.hats(0, 6);
        due("who(), in the street by then", x.who(), 0);
        x.forget();
        // In at s: 0 in s .. s + 1, 1 in s + 2 .. s + 4, 2 in s + 5, 3 from s + 6 on.
        x.hats(0, 61);
        x.hats(1, 62);
        due("who(), in at 60", x.who(), 15);
        x.hats(1, 65);
        due("who(), in at 60, home in 1", x.who(), 10);
        x.forget();
        x.hats(0, 62);
        due("who(), in at 61 is too late, out from afar is not", x.who(), 5);
        x.hats(1, 63);
        due("who(), in at 61 is too late", x.who(), 0);
        x.forget();
        x.hats(4, 59);
        x.hats(0, 69);
        due("who(), out at 60", x.who(), 4);
        x.hats(4, 60);
        due("who(), out at 61 is too late", x.who(), 0);
        x.forget();
        x.door(4);
        x.hats(4, 50);
        x.hats(3, 70);
        due("who(), by the other door", x.who(), 1);
    }

    private static void bread() {
        promise = 21;
        OneDoor x = five();
        due("bread()", x.bread(), 15);
        x.door(4);
        due("bread(), another door", x.bread(), 31);
        x.shuts(0, 1);
        due("bread(), whatever is shut", x.bread(), 31);
        due("bread(), 20 at first", told("h9;h9;h2;h1;h0;").bread(), 15);
        due("bread(), no houses", told("").bread(), 0);
        due("bread(), 1 minute", told("w1;h1;h1;h0;").bread(), 3);
    }

    private static void meet() {
        promise = 22;
        OneDoor x = five();
        due("meet(0, 0, 0, 0)", x.meet(0, 0, 0, 0), BAD);
        due("meet(4, 0, 0, 0)", x.meet(4, 0, 0, 0), BAD);
        due("meet(0, 0, -1, 0)", x.meet(0, 0, -1, 0), BAD);
        due("meet(0, 61, 1, 0)", x.meet(0, 61, 1, 0), BAD);
        due("meet(0, 0, 1, 61)", x.meet(0, 0, 1, 61), BAD);
        due("meet(0, -1, 1, 0)", x.meet(0, -1, 1, 0), BAD);
        due("meet(0, 0, 1, -1)", x.meet(0, 0, 1, -1), BAD);
        // Out from 3 at 0: 2, 1 1 1, 0 0.  In to 4 at 0: 0 0, 1 1 1, 2, 3 3 3 3, 4.
        due("meet(0, 0, 2, 0)", x.meet(0, 0, 2, 0), 1);
        due("meet(0, 0, 2, 4)", x.meet(0, 0, 2, 4), 0);
        due("meet(0, 0, 2, 5)", x.meet(0, 0, 2, 5), 0);
        due("meet(0, 0, 2, 6)", x.meet(0, 0, 2, 6), NONE);
        due("meet(0, 60, 2, 0)", x.meet(0, 60, 2, 0), 3);
        due("meet(1, 60, 3, 59)", x.meet(1, 60, 3, 59), 0);
        due("meet(1, 60, 3, 58), one by one", x.meet(1, 60, 3, 58), NONE);
        due("meet(1, 60, 3, 57)", x.meet(1, 60, 3, 57), 1);
        due("meet(1, 0, 3, 60)", x.meet(1, 0, 3, 60), NONE);
        // They pass from 2 to 1 and from 1 to 2 at once.
        x = told("h3;h3;h3;p2 1 1;p1 1 1;p2 1 1;");
        due("meet(0, 0, 2, 3)", x.meet(0, 0, 2, 3), 0);
        due("meet(0, 3, 2, 0)", x.meet(0, 3, 2, 0), 1);
        x = told("h0;h0;h3;p2 1 1;p2 1 1;");
        due("meet(0, 0, 1, 0), no time to", x.meet(0, 0, 1, 0), NONE);
        due("meet(0, 1, 1, 0), at home", x.meet(0, 1, 1, 0), 2);
    }

    private static void odds() {
        promise = 23;
        OneDoor x = five();
        int[][] all = {{7, 10}, {49, 100}, {1, 1}, {49, 100}};
        for (int p = 0; p < 4; p++) {
            for (int w = 0; w < 2; w++) due("odds(" + p + ", 3, " + w + ")", x.odds(p, 3, w), all[p][w]);
        }
        due("odds(1, 5, 0)", x.odds(1, 5, 0), 1);
        due("odds(1, 5, 1)", x.odds(1, 5, 1), 4);
        due("odds(1, 0, 0)", x.odds(1, 0, 0), 1);
        due("odds(1, 0, 1)", x.odds(1, 0, 1), 1);
        due("odds(1, 10, 0)", x.odds(1, 10, 0), 0);
        due("odds(1, 10, 1)", x.odds(1, 10, 1), 1);
        due("odds(2, 10, 0)", x.odds(2, 10, 0), 1);
        due("odds(2, 10, 1)", x.odds(2, 10, 1), 1);
        due("odds(4, 1, 0)", x.odds(4, 1, 0), BAD);
        due("odds(-1, 1, 0)", x.odds(-1, 1, 0), BAD);
        due("odds(0, 11, 0)", x.odds(0, 11, 0), BAD);
        due("odds(0, -1, 0)", x.odds(0, -1, 0), BAD);
        due("odds(0, 1, 2)", x.odds(0, 1, 2), BAD);
        due("odds(0, 1, -1)", x.odds(0, 1, -1), BAD);
        x = told("h1;h1;p0 0 0;p1 0 0;p1 1 0;p1 2 0;p1 3 0;p1 0 0;");
        due("odds(0, 7, 0), whatever errands", x.odds(0, 7, 0), 243);
        due("odds(0, 7, 1), whatever errands", x.odds(0, 7, 1), 100000);
    }

    private static void mark() {
        promise = 24;
        OneDoor x = five();
        x.shuts(3, 1);
        int[] third = {4, 5, 1, 10, 10, 4};
        for (int k = 0; k < 6; k++) due("mark(" + k + ", 3)", x.mark(k, 3), third[k]);
        int[] first = {3, 5, 2, 10, 2, 3};
        for (int k = 0; k < 6; k++) due("mark(" + k + ", 1)", x.mark(k, 1), first[k]);
        due("mark(2, 2), below 0", x.mark(2, 2), -1);
        due("mark(6, 0)", x.mark(6, 0), NO);
        due("mark(-1, 0)", x.mark(-1, 0), NO);
        due("mark(0, 5)", x.mark(0, 5), NO);
        due("mark(0, -1)", x.mark(0, -1), NO);
        due("mark(LOW, HIGH)", x.mark(LOW, HIGH), NO);
        x = told("h2;h2;p0 1 0;p0 1 1;p1 1 0;");
        x.steps(2, 0);
        due("mark(5, 1), two were offended", x.mark(5, 1), 4);
        x.steps(2, 0);
        x.steps(2, 1);
        due("mark(5, 1), each time", x.mark(5, 1), 6);
    }

    private static void keep() {
        promise = 25;
        OneDoor x = five();
        due("keep(2)", x.keep(2), BAD);
        due("keep(-1)", x.keep(-1), BAD);
        due("keep(LOW)", x.keep(LOW), BAD);
        due("keep(0)", x.keep(0), 0);
        x.steps(2, 0);
        due("keep(1)", x.keep(1), 5);
        due("count(5)", x.count(5), 1);
        x.steps(2, 0);
        due("keep(0) anew", x.keep(0), 9);
        due("back(1)", x.back(1), 5);
        due("back(0)", x.back(0), 9);
    }

    private static void back() {
        promise = 26;
        OneDoor x = five();
        due("back(2)", x.back(2), BAD);
        due("back(-1)", x.back(-1), BAD);
        due("back(0)", x.back(0), STATE);
        x.steps(2, 0);
        x.shuts(4, 1);
        x.exchanges(0, 1);
        x.door(2);
        x.keep(1);
        due("back(0)", x.back(0), STATE);
        x.hats(0, 0);
        x.mark(1, 0);
        for (int i = 0; i < 12; i++) x.steps(2, 1 + i % 2 * -1);
        x.shuts(4, 0);
        x.exchanges(2, 3);
        x.door(-1);
        x.calms(0);
        due("back(1)", x.back(1), 5);
        due("person(2, 3)", x.person(2, 3), 3);
        due("person(0, 0)", x.person(0, 0), 1);
        due("person(2, 0)", x.person(2, 0), 4);
        due("person(0, 2)", x.person(0, 2), 2);
        due("house(4, 3)", x.house(4, 3), 1);
        due("now(3)", x.now(3), 2);
        due("count(4) stays", x.count(4), 1);
        due("trace() stays", x.trace(), 11);
        for (int left = 3; left >= 0; left--) due("undo()", x.undo(), left);
        due("person(2, 3) undone", x.person(2, 3), 4);
        due("person(0, 2) undone", x.person(0, 2), 3);
        due("back(1) again", x.back(1), 5);
        due("count(5) again", x.count(5), 4);
    }

    private static void count() {
        promise = 27;
        OneDoor x = five();
        typed(x, "xy");
        x.hats(0, 0);
        x.calms(0);
        x.calms(0);
        int[] all = {5, 4, 20, 6, 1, 2, 2};
        for (int w = 0; w < 7; w++) due("count(" + w + ")", x.count(w), all[w]);
        due("count(7)", x.count(7), BAD);
        due("count(-1)", x.count(-1), BAD);
        due("count(LOW)", x.count(LOW), BAD);
    }

    private static void trace() {
        promise = 28;
        OneDoor x = five();
        long[] adds = {1, 11, 101, 1011, 10101, 100001};
        long sum = 0;
        for (int k = 0; k < 6; k++) {
            x.mark(k, 0);
            sum += adds[k];
            due("trace()", x.trace(), sum);
        }
        x.mark(0, 5);
        x.mark(6, 0);
        x.undo();
        due("trace(), refused ones add nothing", x.trace(), sum);
        x.mark(0, 1);
        due("trace()", x.trace(), sum + 1);
    }

    public static void main(String[] args) {
        newObject();
        type();
        clear();
        texts();
        house();
        person();
        steps();
        shuts();
        exchanges();
        door();
        calms();
        undo();
        now();
        homes();
        doorAt();
        fair();
        coffin();
        hats();
        forget();
        who();
        bread();
        meet();
        odds();
        mark();
        keep();
        back();
        count();
        trace();
        System.out.println(looked + " answers looked at, " + wrong + " not as due");
        if (wrong != 0) System.exit(1);
    }
}
