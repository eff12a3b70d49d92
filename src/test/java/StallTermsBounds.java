/** The bounds that parts IV and V of the document's terms name for stalls, charges, walks and the best tree. */
final class StallTermsBounds {
    private static final int NONE = ShadeRegister.NONE;
    private static final int NO_FEES = -1000000000;

    private final Bounds b;

    private StallTermsBounds(Bounds b) {
        this.b = b;
    }

    static void all(Bounds b) {
        StallTermsBounds t = new StallTermsBounds(b);
        t.stalls();
        t.places();
        t.daysThatMeet();
        t.charges();
        t.chargesOfThirteen();
        t.chargesAsKnown();
        t.fees();
        t.walks();
        t.walksAmongStalls();
        t.sunnyHours();
        t.bestWalks();
        t.bestTree();
        t.bestTreePlaces();
        t.constants();
    }

    /** Six by five cells, persons 0 and 1; a cell to the right for one of height in every hour of month 0. */
    private static ShadeRegister town() {
        ShadeRegister x = new ShadeRegister(6, 5);
        x.person();
        x.person();
        for (int hour = 0; hour < 12; hour++) {
            x.sun(0, hour, 100, 0);
        }
        return x;
    }

    private static ShadeRegister tenStalls() {
        ShadeRegister x = Towns.rich();
        for (int i = 1; i < 10; i++) {
            x.stall(1, 10, 10 + i);
        }
        x.place(9, 0, 50);
        return x;
    }

    private void stalls() {
        b.of("STALLS 0 .. 9: of a PERSON, on DAYS from one to one (both).");
        ShadeRegister x = town();
        for (int i = 0; i < 10; i++) {
            b.due("stall " + i, x.stall(0, 5, 5 + i), i);
        }
        b.due("fees on the day ahead", x.fees(1, 4, NONE), NO_FEES);
        b.due("fees on the first day", x.fees(1, 5, NONE), 0);
        b.due("fees on the last day", x.fees(1, 6, NONE), 0);
        b.due("fees on the day behind", x.fees(1, 7, NONE), NO_FEES);
        b.due("fees of stall 0 on its only day", x.fees(0, 5, NONE), 0);
        b.due("place of stall 0", x.place(0, 0, 7), true);
        b.due("place of stall 9", x.place(9, 0, 8), true);
        b.due("placeOf stall 0", x.placeOf(0, 0), 7);
        b.due("placeOf stall 9", x.placeOf(9, 0), 8);
        b.due("fees of stall 9", x.fees(9, 14, NONE), 0);
        b.refused(StallTermsBounds::tenStalls, "an 11th stall", y -> y.stall(0, 10, 10), NONE);
        for (int stall : new int[] {-1, 10, Integer.MIN_VALUE, Integer.MAX_VALUE}) {
            b.refused(StallTermsBounds::tenStalls, "place of " + stall, y -> Bounds.bit(y.place(stall, 0, 51)), 0);
            b.refused(StallTermsBounds::tenStalls, "no place of " + stall, y -> Bounds.bit(y.place(stall, 0, NONE)), 0);
            b.refused(StallTermsBounds::tenStalls, "placeOf " + stall, y -> y.placeOf(stall, 0), NONE);
            b.refused(StallTermsBounds::tenStalls, "fees of " + stall, y -> y.fees(stall, 10, NONE), NO_FEES);
        }
        b.refused("of one stall, place of 1", y -> Bounds.bit(y.place(1, 0, 51)), 0);
        b.refused("of one stall, placeOf 1", y -> y.placeOf(1, 0), NONE);
        b.refused("of one stall, fees of 1", y -> y.fees(1, 10, NONE), NO_FEES);
    }

    private void places() {
        b.of("PLACES: in an HOUR a CELL, or none.");
        ShadeRegister x = town();
        x.stall(0, 0, 9);
        for (int hour = 0; hour < 12; hour++) {
            b.due("none at first in " + hour, x.placeOf(0, hour), NONE);
        }
        for (int hour = 0; hour < 12; hour++) {
            b.due("place in " + hour, x.place(0, hour, 29 - hour), true);
        }
        for (int hour = 0; hour < 12; hour++) {
            b.due("its place in " + hour, x.placeOf(0, hour), 29 - hour);
        }
        b.due("one cell in two hours", x.place(0, 1, 29), true);
        b.due("another cell", x.place(0, 0, 0), true);
        b.due("it has that alone", x.placeOf(0, 0), 0);
        b.due("none", x.place(0, 0, NONE), true);
        b.due("it has none", x.placeOf(0, 0), NONE);
        b.due("the other hour's stays", x.placeOf(0, 1), 29);
    }

    /** A stall on days 10 .. 20 has cell 7 in hour 3; another one asks for it. */
    private void daysThatMeet() {
        b.of("Two STALLS whose DAYS meet have no CELL in the same HOUR.");
        int[][] spans = {{0, 9, 1}, {0, 10, 0}, {20, 30, 0}, {21, 30, 1}, {10, 20, 0}, {15, 15, 0}, {0, 3599, 0},
            {10, 10, 0}, {20, 20, 0}, {9, 9, 1}, {21, 21, 1}};
        for (int[] span : spans) {
            ShadeRegister x = town();
            x.stall(0, 10, 20);
            x.place(0, 3, 7);
            x.stall(0, span[0], span[1]);
            String what = "days " + span[0] + " to " + span[1];
            b.due(what, x.place(1, 3, 7), span[2] == 1);
            b.due(what + ": has it", x.placeOf(1, 3), span[2] == 1 ? 7 : NONE);
            b.due(what + ": another hour", x.place(1, 4, 7), true);
            b.due(what + ": another cell", x.place(1, 3, 8), true);
            b.due(what + ": the other way", x.place(0, 4, 7), span[2] == 1);
            x.place(0, 3, NONE);
            b.due(what + ": given up", x.place(1, 3, 7), true);
        }
    }

    private void charges() {
        b.of("CHARGE of a CELL, DAY, HOUR (stall s or NONE), as KNOWN on the clock's DAY: for each THING by which it is "
            + "SHADED what THE TARIFF gives, with hour, month, day, height (the THING's), many (n), kind, thing (their "
            + "numbers), stall (s); 0 at least each; that goes to THE HOLDER.");
        String[] names = {"hour", "month", "day", "height", "many", "kind", "thing", "stall"};
        long[] asStall = {22, 0, 40, 3 + 7, 4, 1 + 2, 0 + 1, 2};
        long[] onWalk = {22, 0, 40, 3 + 7, 4, 1 + 2, 0 + 1, 0};
        for (int i = 0; i < names.length; i++) {
            ShadeRegister x = town();
            x.tree(6, 0, 1, 10);
            x.pole(7, 1, 7, 0, 0);
            x.stall(0, 0, 99);
            x.stall(0, 0, 99);
            x.place(1, 11, 9);
            Towns.read(x, "give " + names[i] + ";");
            b.due("fees by " + names[i], x.fees(1, 20, NONE), asStall[i]);
            x.place(1, 11, NONE);
            x.walk(20, 11, 9, 11, 9);
            b.due("a walk's by " + names[i], x.walked(NONE), onWalk[i]);
        }
        ShadeRegister x = town();
        x.wall(6, 0, 3);
        x.wall(7, 1, 3);
        x.stall(0, 0, 99);
        x.place(0, 0, 8);
        long[][] rules = {{-1, 0, 0, 0}, {0, 0, 0, 0}, {1, 1, 1, 0}};
        for (long[] rule : rules) {
            Towns.read(x, "when thing=0 give " + rule[0] + "; give -5;");
            b.due("gives " + rule[0] + " to all", x.fees(0, 0, NONE), rule[1]);
            b.due("gives " + rule[0] + " to 0", x.fees(0, 0, 0), rule[2]);
            b.due("gives " + rule[0] + " to 1", x.fees(0, 0, 1), rule[3]);
        }
        Towns.read(x, "when thing=0 give 100; give -1000;");
        b.due("0 at least each, not together", x.fees(0, 0, NONE), 100);
        Towns.read(x, "when thing=0 give 100; give 30;");
        b.due("to all together", x.fees(0, 0, NONE), 130);
        b.due("to the one", x.fees(0, 0, 0), 100);
        b.due("to the other", x.fees(0, 0, 1), 30);
        x.grant(0, 1, 0, 0, 11, 4, 5, 1);
        b.due("to the holder on the day ahead", x.fees(0, 3, 1), 30);
        b.due("to the holder on the first day", x.fees(0, 4, 1), 130);
        b.due("to the holder on the last day", x.fees(0, 5, 0), 0);
        b.due("to the owner behind it", x.fees(0, 6, 0), 100);
    }

    private void chargesOfThirteen() {
        ShadeRegister x = Towns.flat(16, 4, 2);
        for (int i = 0; i < 13; i++) {
            x.wall(i, i == 12 ? 1 : 0, 15);
        }
        x.stall(0, 0, 9);
        x.place(0, 0, 14);
        Towns.read(x, "give many;");
        b.due("twelve things of twelve", x.fees(0, 0, NONE), 144);
        b.due("the 13th has nothing", x.fees(0, 0, 1), 0);
        Towns.read(x, "give 100000*100000;");
        b.due("more than an int holds", x.fees(0, 0, 0), 12000000000L);
    }

    private void chargesAsKnown() {
        ShadeRegister x = town();
        x.wall(6, 0, 2);
        x.days(5);
        x.stall(0, 0, 9);
        x.place(0, 0, 8);
        Towns.read(x, "give height;");
        b.due("as known now", x.fees(0, 3, NONE), 2);
        x.raise(0, 3, 4);
        b.due("told today, from its day on", x.fees(0, 3, NONE), 4);
        b.due("told today, ahead of its day", x.fees(0, 2, NONE), 2);
        x.fell(0, 4);
        b.due("ahead of its fall", x.fees(0, 3, NONE), 4);
        b.due("from its fall on", x.fees(0, 4, NONE), 0);
        x.grant(0, 1, 0, 11, 11, 0, 9, 0);
        b.due("a sale that is told today", x.fees(0, 3, 1), 4);
    }

    private void fees() {
        b.of("FEES of a STALL on a DAY: of all its PLACES.");
        ShadeRegister x = town();
        x.wall(6, 0, 2);
        x.stall(0, 0, 9);
        x.stall(0, 0, 9);
        Towns.read(x, "give 1+hour;");
        b.due("without places", x.fees(0, 0, NONE), 0);
        x.place(0, 0, 7);
        b.due("the first hour's", x.fees(0, 0, NONE), 1);
        x.place(0, 11, 8);
        b.due("and the last hour's", x.fees(0, 0, NONE), 13);
        x.place(0, 5, 9);
        b.due("a sunny one", x.fees(0, 0, NONE), 13);
        b.due("of another stall", x.fees(1, 0, NONE), 0);
        for (int hour = 0; hour < 12; hour++) {
            x.place(0, hour, 7);
        }
        b.due("of all twelve", x.fees(0, 0, NONE), 78);
        x.cloud(0, 11);
        b.due("in clouds", x.fees(0, 0, NONE), 66);
    }

    private void path(ShadeRegister x, String what, int... cells) {
        for (int i = 0; i < cells.length; i++) {
            b.due(what + ": cell " + i, x.walked(i), cells[i]);
        }
        b.due(what + ": no more", x.walked(cells.length), NONE);
    }

    private void walks() {
        b.of("A WALK on a DAY from a CELL in an HOUR to a CELL in an HOUR: one CELL for each HOUR, from one to the next the "
            + "same or one beside it (not aslant);");
        ShadeRegister x = town();
        b.due("one hour, one cell", x.walk(0, 4, 14, 4, 14), 1);
        path(x, "one hour, one cell", 14);
        b.due("one hour, two cells", x.walk(0, 4, 14, 4, 15), NONE);
        int[][] steps = {{14, 14, 2}, {14, 13, 2}, {14, 15, 2}, {14, 8, 2}, {14, 20, 2}, {14, 7, NONE}, {14, 9, NONE},
            {14, 19, NONE}, {14, 21, NONE}, {14, 12, NONE}, {14, 16, NONE}, {14, 2, NONE}, {14, 26, NONE}, {5, 6, NONE},
            {6, 5, NONE}, {11, 12, NONE}, {0, 29, NONE}, {0, 5, NONE}, {0, 24, NONE}, {29, 28, 2}, {29, 23, 2}, {0, 1, 2}, {0, 6, 2}};
        for (int[] step : steps) {
            b.due("from " + step[0] + " to " + step[1], x.walk(0, 3, step[0], 4, step[1]), step[2]);
        }
        b.due("nine steps in ten hours", x.walk(0, 0, 0, 9, 29), 10);
        b.due("nine steps in nine hours", x.walk(0, 0, 0, 8, 29), NONE);
        b.due("all twelve hours", x.walk(0, 0, 0, 11, 29), 12);
        path(x, "all twelve hours", 0, 0, 0, 1, 2, 3, 4, 5, 11, 17, 23, 29);
        aroundTheEdge();
    }

    /** The first row is in shade but for its first cell: going along it pays only if it led around the edge. */
    private void aroundTheEdge() {
        ShadeRegister x = new ShadeRegister(6, 5);
        x.person();
        for (int hour = 0; hour < 12; hour++) {
            x.sun(0, hour, 0, -100);
        }
        for (int cell = 7; cell < 12; cell++) {
            x.wall(cell, 0, 1);
        }
        b.due("not from a row's end to the next row", x.walk(0, 0, 0, 6, 6), 3);
        path(x, "not from a row's end to the next row", 0, 1, 1, 1, 1, 0, 6);
        b.due("not from a row's beginning to the row above", x.walk(0, 0, 6, 6, 0), 3);
        path(x, "not from a row's beginning to the row above", 6, 0, 1, 1, 1, 1, 0);
    }

    private void walksAmongStalls() {
        b.of("OPEN ones alone, none that a STALL has in that HOUR on that DAY (as KNOWN on the clock's DAY).");
        ShadeRegister x = town();
        x.wall(7, 0, 0);
        b.due("not on a thing of height 0", x.walk(0, 0, 6, 2, 8), NONE);
        b.due("around it", x.walk(0, 0, 6, 4, 8), 5);
        path(x, "around it", 6, 0, 1, 2, 8);
        x.days(5);
        b.due("not from it", x.walk(5, 0, 7, 1, 8), NONE);
        b.due("not to it", x.walk(5, 0, 8, 1, 7), NONE);
        x.fell(0, 4);
        b.due("where it fell", x.walk(4, 0, 6, 2, 8), 3);
        b.due("ahead of its fall", x.walk(3, 0, 6, 2, 8), NONE);
        x.wall(12, 0, 0);
        b.due("a thing that came today", x.walk(5, 0, 12, 0, 12), NONE);
        b.due("ahead of from", x.walk(4, 0, 12, 0, 12), 1);
        x.stall(0, 6, 8);
        x.place(0, 3, 20);
        int[][] hoursAndDays = {{3, 5, 1}, {3, 6, NONE}, {3, 8, NONE}, {3, 9, 1}, {2, 7, 1}, {4, 7, 1}, {3, 7, NONE}};
        for (int[] one : hoursAndDays) {
            b.due("a stall's cell in " + one[0] + " on " + one[1], x.walk(one[1], one[0], 20, one[0], 20), one[2]);
        }
        b.due("out of a stall's way", x.walk(7, 2, 20, 4, 20), 3);
        path(x, "out of a stall's way", 20, 14, 20);
        b.due("not in its way at the end", x.walk(7, 2, 20, 3, 20), NONE);
        b.due("not in its way at the beginning", x.walk(7, 3, 20, 4, 20), NONE);
        b.due("beside a stall, then on its cell", x.walk(7, 3, 19, 4, 20), 2);
    }

    private void sunnyHours() {
        b.of("SUNNY: HOURS at whose CELL there is no shade.");
        ShadeRegister x = town();
        x.wall(6, 0, 2);
        b.due("none is sunny", x.walk(0, 0, 7, 11, 7), 0);
        b.due("all are sunny", x.walk(0, 0, 9, 0, 9), 1);
        b.due("the last of the shadow", x.walk(0, 0, 8, 0, 8), 0);
        b.due("one of two", x.walk(0, 0, 8, 1, 9), 1);
        x.cloud(0, 5);
        b.due("clouds are no shade", x.walk(0, 0, 7, 11, 7), 1);
        b.due("on another day", x.walk(1, 0, 7, 11, 7), 0);
    }

    private void bestWalks() {
        b.of("THE BEST: the fewest SUNNY; of like ones the least CHARGES (stall NONE) together; of these the first by "
            + "CELLS, HOUR by HOUR.");
        ShadeRegister x = town();
        x.wall(0, 0, 5);
        x.wall(12, 1, 5);
        Towns.read(x, "when thing=0 give 10; give 9;");
        b.due("fewest sunny", x.walk(0, 0, 7, 4, 9), 2);
        b.due("least charges", x.walked(NONE), 27);
        path(x, "least charges", 7, 13, 14, 15, 9);
        Towns.read(x, "when thing=0 give 9; give 10;");
        b.due("fewest sunny again", x.walk(0, 0, 7, 4, 9), 2);
        b.due("least charges again", x.walked(NONE), 27);
        path(x, "least charges again", 7, 1, 2, 3, 9);
        Towns.read(x, "give 10;");
        b.due("of like charges", x.walk(0, 0, 7, 4, 9), 2);
        path(x, "of like charges", 7, 1, 2, 3, 9);
        Towns.read(x, "when stall=-1 give 100000*100000; give 1;");
        b.due("sun counts first, whatever the charges", x.walk(0, 0, 1, 11, 1), 0);
        b.due("more than an int holds", x.walked(NONE), 12000000000L);
        path(x, "the first by cells", 1, 1, 1, 1, 1, 1, 1, 1, 1, 1, 1, 1);
        chargesOfEachHour();
        ShadeRegister y = town();
        b.due("all sunny", y.walk(0, 0, 14, 3, 14), 4);
        b.due("no charges", y.walked(NONE), 0);
        path(y, "up, not left, right or down", 14, 8, 8, 14);
        b.due("on", y.walk(0, 0, 0, 4, 7), 5);
        path(y, "it stays first", 0, 0, 0, 1, 7);
        b.due("back", y.walk(0, 0, 29, 2, 22), 3);
        path(y, "by the lower number", 29, 23, 22);
    }

    /** Cells 7, 8 and 9 are in shade; each hour has a charge of its own, so that one counted twice would be seen. */
    private void chargesOfEachHour() {
        ShadeRegister x = town();
        x.wall(6, 0, 3);
        Towns.read(x, "when hour=0 give 1; when hour=1 give 10; when hour=2 give 100; when hour=3 give 1000; give 10000;");
        int[][] walks = {{9, 7}, {7, 9}, {8, 8}, {9, 9}, {8, 7}, {7, 8}};
        int[][] paths = {{9, 8, 7, 7}, {7, 7, 8, 9}, {8, 7, 7, 8}, {9, 8, 8, 9}, {8, 7, 7, 7}, {7, 7, 7, 8}};
        for (int i = 0; i < walks.length; i++) {
            String what = "from " + walks[i][0] + " to " + walks[i][1];
            b.due(what, x.walk(0, 0, walks[i][0], 3, walks[i][1]), 0);
            b.due(what + ": each hour once", x.walked(NONE), 1111);
            path(x, what, paths[i]);
        }
        b.due("later hours", x.walk(0, 3, 9, 6, 7), 0);
        b.due("later hours: each once", x.walked(NONE), 31000);
        x.stall(0, 0, 9);
        x.place(0, 1, 8);
        b.due("waiting for a stall to go", x.walk(0, 0, 9, 4, 7), 0);
        b.due("waiting: each hour once", x.walked(NONE), 11111);
        path(x, "waiting", 9, 9, 8, 7, 7);
    }

    private void bestTree() {
        b.of("THE TREE of a HEIGHT on a DAY: of all OPEN CELLS, that no STALL has on that DAY, the one on which a THING of "
            + "that HEIGHT (LEAN (0, 0)) would bring shade to most PLACES of STALLS of that DAY that are SUNNY; of like "
            + "ones the lowest.");
        ShadeRegister x = town();
        b.due("without stalls", x.best(0, 1), 0);
        b.due("without stalls: serves", x.serves(0, 1), 0);
        x.stall(0, 5, 6);
        x.place(0, 0, 0);
        b.due("on the day ahead of its days", x.best(4, 1), 0);
        b.due("not on its cell, first day", x.best(5, 1), 1);
        b.due("not on its cell, last day", x.best(6, 1), 1);
        b.due("on the day behind its days", x.best(7, 1), 0);
        b.due("no tree shades its left", x.serves(5, 60), 0);
        bestTreeAtEdges();
        x.place(0, 1, 9);
        b.due("height 1: the cell beside", x.best(5, 1), 8);
        b.due("height 1: serves", x.serves(5, 1), 1);
        b.due("height 2: of like ones the lowest", x.best(5, 2), 7);
        b.due("height 3: of like ones the lowest", x.best(5, 3), 6);
        b.due("height 60", x.best(5, 60), 6);
        b.due("of another day", x.serves(7, 60), 0);
        x.place(0, 2, 10);
        b.due("two places", x.serves(5, 60), 2);
        b.due("two places by height 1", x.serves(5, 1), 1);
        b.due("two places by height 1: the lowest", x.best(5, 1), 8);
        b.due("two places by height 2", x.best(5, 2), 8);
        x.wall(8, 0, 0);
        b.due("an open cell alone", x.best(5, 2), 7);
        b.due("an open cell alone: serves", x.serves(5, 2), 1);
        x.raise(0, 0, 1);
        b.due("what isn't sunny", x.serves(5, 60), 1);
        b.due("what isn't sunny: where", x.best(5, 60), 6);
    }

    /** A place at one edge of the ground, the sun from beyond it: no cell of another row or column serves it. */
    private void bestTreeAtEdges() {
        int[][] placesAndSuns = {{5, -100, 0}, {6, 100, 0}, {11, -100, 0}, {24, 100, 0}, {29, -100, 0}, {2, 0, 100},
            {27, 0, -100}, {5, -100, 100}, {24, 100, -100}};
        for (int[] one : placesAndSuns) {
            ShadeRegister x = town();
            x.sun(0, 0, one[1], one[2]);
            x.stall(0, 0, 9);
            x.place(0, 0, one[0]);
            b.due("none serves " + one[0], x.serves(0, 60), 0);
            b.due("none serves " + one[0] + ": the lowest", x.best(0, 60), 0);
        }
    }

    private void bestTreePlaces() {
        ShadeRegister x = town();
        x.stall(0, 0, 9);
        for (int hour = 0; hour < 12; hour++) {
            x.place(0, hour, 3);
        }
        b.due("one cell in twelve hours", x.serves(0, 60), 12);
        x.cloud(0, 11);
        b.due("no shade in clouds", x.serves(0, 60), 11);
        x.stall(0, 0, 9);
        for (int hour = 0; hour < 12; hour++) {
            x.place(1, hour, 4);
        }
        b.due("two stalls", x.serves(1, 60), 24);
        b.due("two stalls: where", x.best(1, 60), 0);
        x.stall(0, 10, 20);
        x.place(2, 0, 5);
        b.due("a stall of other days", x.serves(9, 60), 24);
        b.due("that stall's day", x.serves(10, 60), 1);
        ShadeRegister y = new ShadeRegister(16, 12);
        y.person();
        y.sun(0, 0, 16, 0);
        y.stall(0, 0, 9);
        y.place(0, 0, 10);
        b.due("height 60 reaches it", y.best(0, 60), 0);
        b.due("height 59 from one nearer", y.best(0, 59), 1);
        y.sun(0, 0, -16, 0);
        b.due("from the right", y.best(0, 4), 11);
        b.due("by height 3 not", y.serves(0, 3), 0);
        y.sun(0, 0, 0, 16);
        y.place(0, 0, 16 * 10 + 3);
        b.due("from above, height 60", y.best(0, 60), 3);
        b.due("from above, height 59", y.best(0, 59), 16 + 3);
        y.sun(0, 0, 0, -16);
        b.due("from below", y.best(0, 4), 16 * 11 + 3);
        y.sun(0, 0, 100, -100);
        b.due("aslant, from below and the left", y.best(0, 1), 16 * 11 + 2);
        y.sun(0, 0, -100, 100);
        b.due("aslant, from above and the right", y.best(0, 2), 16 * 8 + 5);
        y.sun(0, 0, 0, 0);
        b.due("no shade beside itself", y.serves(0, 60), 0);
        b.due("no shade: the lowest", y.best(0, 60), 0);
    }

    private void constants() {
        b.of("The constants: `NONE = -1`: None.");
        b.due("NONE", ShadeRegister.NONE, -1);
    }
}
