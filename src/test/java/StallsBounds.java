/** The bounds that promises 28 to 36 name. */
final class StallsBounds {
    private static final int NONE = ShadeRegister.NONE;
    private static final int LEAST = Integer.MIN_VALUE;
    private static final int MOST = Integer.MAX_VALUE;
    private static final int NO_FEES = -1000000000;

    private final Bounds b;

    private StallsBounds(Bounds b) {
        this.b = b;
    }

    static void all(Bounds b) {
        StallsBounds t = new StallsBounds(b);
        t.stall();
        t.place();
        t.placeOnOpenCells();
        t.placeOf();
        t.fees();
        t.walk();
        t.walked();
        t.best();
        t.serves();
        t.about();
        t.standing();
    }

    private static ShadeRegister tenStalls() {
        ShadeRegister x = Towns.rich();
        for (int i = 1; i < 10; i++) {
            x.stall(1, 10, 10 + i);
        }
        return x;
    }

    private void stall() {
        b.of("A STALL: its number. NONE for others, or if there are 10.");
        ShadeRegister x = Towns.flat();
        b.due("the first day alone", x.stall(0, 0, 0), 0);
        b.due("the last day alone", x.stall(2, 3599, 3599), 1);
        for (int i = 2; i < 10; i++) {
            b.due("stall " + i, x.stall(1, 0, 3599), i);
        }
        b.due("there are 10", x.stall(1, 0, 3599), NONE);
        b.due("stalls", x.about(7), 10);
        b.refused(StallsBounds::tenStalls, "an 11th", y -> y.stall(0, 0, 3599), NONE);
        b.due("days that are over", Towns.rich().stall(0, 0, 9), 1);
        for (int person : new int[] {-1, 3, LEAST, MOST}) {
            b.refused("person " + person, y -> y.stall(person, 0, 9), NONE);
        }
        int[][] spans = {{-1, 0}, {-1, -1}, {0, 3600}, {3600, 3600}, {1, 0}, {3599, 3598}, {LEAST, MOST}, {MOST, LEAST}};
        for (int[] span : spans) {
            b.refused("days " + span[0] + " to " + span[1], y -> y.stall(0, span[0], span[1]), NONE);
        }
    }

    private static ShadeRegister twoStalls() {
        ShadeRegister x = Towns.rich();
        x.stall(1, 20, 30);
        x.place(1, 2, 31);
        return x;
    }

    private void place() {
        b.of("A PLACE (cell NONE: none any more): true. False: others, the CELL isn't OPEN on each of its DAYS from the "
            + "clock's on (as KNOWN now), or another STALL whose DAYS meet has it in that HOUR.");
        ShadeRegister x = Towns.flat();
        x.stall(0, 0, 9);
        b.due("first hour, first cell", x.place(0, 0, 0), true);
        b.due("last hour, last cell", x.place(0, 11, 59), true);
        b.due("the same again", x.place(0, 11, 59), true);
        b.due("none any more", x.place(0, 11, NONE), true);
        b.due("it has none", x.placeOf(0, 11), NONE);
        b.due("none any more, again", x.place(0, 11, NONE), true);
        b.due("none ever", x.place(0, 5, NONE), true);
        for (int stall : new int[] {-1, 2, LEAST, MOST}) {
            b.refused(StallsBounds::twoStalls, "stall " + stall, y -> Bounds.bit(y.place(stall, 0, 50)), 0);
            b.refused(StallsBounds::twoStalls, "none of stall " + stall, y -> Bounds.bit(y.place(stall, 0, NONE)), 0);
        }
        for (int hour : new int[] {-1, 12, LEAST, MOST}) {
            b.refused(StallsBounds::twoStalls, "hour " + hour, y -> Bounds.bit(y.place(1, hour, 50)), 0);
            b.refused(StallsBounds::twoStalls, "none in hour " + hour, y -> Bounds.bit(y.place(1, hour, NONE)), 0);
        }
        for (int cell : new int[] {-2, 60, LEAST, MOST}) {
            b.refused(StallsBounds::twoStalls, "cell " + cell, y -> Bounds.bit(y.place(1, 2, cell)), 0);
        }
        b.refused(StallsBounds::twoStalls, "another's, days meet in one", y -> Bounds.bit(y.place(1, 2, 30)), 0);
        b.refused(StallsBounds::twoStalls, "another's, the other way", y -> Bounds.bit(y.place(0, 2, 31)), 0);
        b.due("another hour", twoStalls().place(1, 3, 30), true);
        b.due("its own", twoStalls().place(1, 2, 31), true);
        ShadeRegister z = Towns.rich();
        z.stall(1, 21, 30);
        b.due("days that don't meet", z.place(1, 2, 30), true);
        ShadeRegister w = Towns.rich();
        w.stall(1, 0, 7);
        b.due("days that don't meet, ahead", w.place(1, 2, 30), true);
        b.due("both have it", w.placeOf(0, 2), 30);
    }

    /** Rich towns have wall 0 on cell 0, from day 5 on; the clock is on day 10. */
    private void placeOnOpenCells() {
        for (int cell : new int[] {0, 12, 44}) {
            b.refused("the thing's cell " + cell, x -> Bounds.bit(x.place(0, 5, cell)), 0);
        }
        int[][] spans = {{0, 9, 1}, {0, 10, 0}, {10, 10, 0}, {11, 11, 0}, {3599, 3599, 0}, {9, 9, 1}, {4, 4, 1}, {0, 3599, 0}};
        for (int[] span : spans) {
            ShadeRegister x = Towns.rich();
            x.stall(0, span[0], span[1]);
            b.due("a thing, days " + span[0] + " to " + span[1], x.place(1, 0, 0), span[2] == 1);
            b.due("beside it, days " + span[0] + " to " + span[1], x.place(1, 0, 1), true);
            ShadeRegister y = Towns.fallen();
            y.stall(0, span[0], span[1]);
            b.due("where it fell, days " + span[0] + " to " + span[1], y.place(1, 0, 0), true);
        }
        ShadeRegister z = Towns.rich();
        z.fell(0, 10);
        b.due("where it fell today", z.place(0, 0, 0), true);
        ShadeRegister w = Towns.rich();
        w.raise(0, 10, 0);
        b.due("of height 0 it stands", w.place(0, 0, 0), false);
    }

    private void placeOf() {
        b.of("The CELL of a STALL in an HOUR. NONE: none, and for others.");
        ShadeRegister x = Towns.rich();
        x.place(0, 0, 59);
        x.place(0, 11, 58);
        b.due("in the first hour", x.placeOf(0, 0), 59);
        b.due("in the last hour", x.placeOf(0, 11), 58);
        b.due("none", x.placeOf(0, 1), NONE);
        for (int stall : new int[] {-1, 1, LEAST, MOST}) {
            b.refused("stall " + stall, y -> y.placeOf(stall, 2), NONE);
        }
        for (int hour : new int[] {-1, 12, LEAST, MOST}) {
            b.refused("hour " + hour, y -> y.placeOf(0, hour), NONE);
        }
        ShadeRegister z = tenStalls();
        z.place(9, 11, 57);
        b.due("of the last stall", z.placeOf(9, 11), 57);
    }

    /** A wall of height 3 on cell 0 of person 0, another on cell 10 of person 2; the stall's days are 4 .. 6. */
    private static ShadeRegister market() {
        ShadeRegister x = Towns.flat();
        x.wall(0, 0, 3);
        x.wall(10, 2, 3);
        x.stall(1, 4, 6);
        x.place(0, 0, 1);
        Towns.read(x, "give height;");
        return x;
    }

    private void fees() {
        b.of("FEES of a STALL on a DAY that go to a PERSON (NONE: to all together). -1000000000 for others, or if it isn't one "
            + "of its DAYS.");
        b.due("to all together", market().fees(0, 5, NONE), 3);
        b.due("to the holder", market().fees(0, 5, 0), 3);
        b.due("to the stall's own person", market().fees(0, 5, 1), 0);
        b.due("to another", market().fees(0, 5, 2), 0);
        b.due("on its first day", market().fees(0, 4, NONE), 3);
        b.due("on its last day", market().fees(0, 6, NONE), 3);
        for (int day : new int[] {3, 7, 0, -1, 3599, 3600, LEAST, MOST}) {
            b.refused(StallsBounds::market, "on day " + day, x -> x.fees(0, day, NONE), NO_FEES);
            b.refused(StallsBounds::market, "to 0 on day " + day, x -> x.fees(0, day, 0), NO_FEES);
        }
        for (int stall : new int[] {-1, 1, LEAST, MOST}) {
            b.refused(StallsBounds::market, "of stall " + stall, x -> x.fees(stall, 5, NONE), NO_FEES);
        }
        for (int person : new int[] {-2, 3, LEAST, MOST}) {
            b.refused(StallsBounds::market, "to person " + person, x -> x.fees(0, 5, person), NO_FEES);
        }
        ShadeRegister x = market();
        Towns.read(x, "");
        b.due("without rules", x.fees(0, 5, NONE), 0);
    }

    private void walk() {
        b.of("SUNNY HOURS of THE BEST WALK. NONE: there is none, and for others (the second HOUR not below the first).");
        ShadeRegister x = Towns.walled();
        b.due("one hour, the first", x.walk(0, 0, 10, 0, 10), 1);
        b.due("one hour, the last", x.walk(3599, 11, 59, 11, 59), 1);
        b.due("all hours", x.walk(0, 0, 10, 11, 10), 12);
        b.due("all hours, the first in shade", x.walk(0, 0, 1, 11, 1), 11);
        b.due("none sunny", x.walk(0, 0, 1, 0, 1), 0);
        b.due("the second a cell further", x.walk(0, 0, 10, 1, 11), 2);
        b.due("there is none: too far", x.walk(0, 0, 10, 1, 12), NONE);
        b.due("there is none: not open", x.walk(0, 0, 0, 1, 1), NONE);
        b.due("there is none: not open at its end", x.walk(0, 0, 1, 1, 0), NONE);
        for (int[] hours : new int[][] {{1, 0}, {11, 10}, {11, 0}, {-1, 0}, {-1, -1}, {0, 12}, {11, 12}, {12, 12},
            {LEAST, 0}, {0, MOST}, {LEAST, MOST}, {MOST, LEAST}}) {
            b.refused("hours " + hours[0] + " to " + hours[1], y -> y.walk(10, hours[0], 50, hours[1], 50), NONE);
        }
        for (int cell : new int[] {-1, 60, LEAST, MOST}) {
            b.refused("from " + cell, y -> y.walk(10, 0, cell, 1, 59), NONE);
            b.refused("to " + cell, y -> y.walk(10, 0, 59, 1, cell), NONE);
            b.refused("at " + cell, y -> y.walk(10, 0, cell, 0, cell), NONE);
        }
        for (int day : new int[] {-1, 3600, LEAST, MOST}) {
            b.refused("day " + day, y -> y.walk(day, 0, 50, 1, 51), NONE);
        }
        // Shut in by walls: nothing leads out of the corner.
        ShadeRegister z = Towns.flat(4, 4, 1);
        z.wall(1, 0, 0);
        z.wall(4, 0, 0);
        b.due("shut in, staying", z.walk(0, 0, 0, 11, 0), 12);
        b.due("shut in, going", z.walk(0, 0, 0, 11, 15), NONE);
        b.due("shut out", z.walk(0, 0, 15, 11, 0), NONE);
    }

    private void walked() {
        b.of("Of the latest walk() that told a number: its CHARGES together (i NONE), its i-th CELL. NONE if there is none such.");
        ShadeRegister x = Towns.walled();
        for (int i = -2; i < 13; i++) {
            b.due("ahead of any: " + i, x.walked(i), NONE);
        }
        x.walk(0, 0, 0, 0, 0);
        b.due("none told a number so far", x.walked(NONE), NONE);
        b.due("none told a number so far: cell 0", x.walked(0), NONE);
        Towns.read(x, "give height;");
        x.walk(0, 0, 1, 11, 2);
        b.due("its charges", x.walked(NONE), 3);
        b.due("its first cell", x.walked(0), 1);
        b.due("its last cell but one", x.walked(10), 1);
        b.due("its last cell", x.walked(11), 2);
        for (int i : new int[] {12, -2, LEAST, MOST}) {
            b.due("no cell " + i, x.walked(i), NONE);
        }
        x.walk(0, 0, 50, 0, 51);
        b.due("one without a number: charges", x.walked(NONE), 3);
        b.due("one without a number: its last cell", x.walked(11), 2);
        x.walk(0, 5, 50, 4, 50);
        b.due("one that is refused: its last cell", x.walked(11), 2);
        x.walk(0, 5, 50, 5, 50);
        b.due("the latest: charges", x.walked(NONE), 0);
        b.due("the latest: its cell", x.walked(0), 50);
        b.due("the latest has one alone", x.walked(1), NONE);
        b.due("nothing of the former is left", x.walked(11), NONE);
        Towns.read(x, "give 7;");
        x.wall(50, 0, 3);
        b.due("it stays as it was told", x.walked(0), 50);
        b.due("its charges stay as they were told", x.walked(NONE), 0);
    }

    private static ShadeRegister crammed() {
        ShadeRegister x = Towns.flat(4, 4, 1);
        for (int cell = 0; cell < 15; cell++) {
            x.wall(cell, 0, 0);
        }
        x.stall(0, 5, 6);
        x.place(0, 11, 15);
        return x;
    }

    private void best() {
        b.of("The CELL of THE TREE (height 1 .. 60). NONE: no CELL will do, and for others.");
        ShadeRegister x = Towns.flat(16, 12, 1);
        x.sun(0, 0, 16, 0);
        x.stall(0, 0, 9);
        x.place(0, 0, 10);
        b.due("height 1", x.best(0, 1), 0);
        b.due("height 60", x.best(0, 60), 0);
        b.due("height 59", x.best(0, 59), 1);
        b.due("height 4", x.best(0, 4), 9);
        for (int height : new int[] {0, 61, -1, LEAST, MOST}) {
            b.refused("height " + height, y -> y.best(10, height), NONE);
        }
        for (int day : new int[] {-1, 3600, LEAST, MOST}) {
            b.refused("day " + day, y -> y.best(day, 1), NONE);
        }
        b.due("the last cell will do", crammed().best(4, 1), 15);
        b.due("no cell will do", crammed().best(5, 1), NONE);
        b.due("no cell will do on the stall's last day", crammed().best(6, 60), NONE);
        b.due("the day behind it will do", crammed().best(7, 60), 15);
    }

    private void serves() {
        b.of("To how many PLACES THE TREE would bring shade. NONE likewise.");
        ShadeRegister x = Towns.flat(16, 12, 1);
        x.sun(0, 0, 16, 0);
        x.stall(0, 0, 9);
        x.place(0, 0, 10);
        b.due("height 1", x.serves(0, 1), 0);
        b.due("height 3", x.serves(0, 3), 0);
        b.due("height 4", x.serves(0, 4), 1);
        b.due("height 60", x.serves(0, 60), 1);
        b.due("on its last day", x.serves(9, 60), 1);
        b.due("on no day of its", x.serves(10, 60), 0);
        for (int height : new int[] {0, 61, -1, LEAST, MOST}) {
            b.refused("height " + height, y -> y.serves(10, height), NONE);
        }
        for (int day : new int[] {-1, 3600, LEAST, MOST}) {
            b.refused("day " + day, y -> y.serves(day, 1), NONE);
        }
        b.due("none, where a cell will do", crammed().serves(4, 1), 0);
        b.due("no cell will do", crammed().serves(5, 1), NONE);
        ShadeRegister y = Towns.flat(16, 12, 1);
        for (int hour = 0; hour < 12; hour++) {
            y.sun(0, hour, 100, 0);
        }
        for (int stall = 0; stall < 10; stall++) {
            y.stall(0, 0, 9);
            for (int hour = 0; hour < 12; hour++) {
                y.place(stall, hour, 1 + stall);
            }
        }
        b.due("all places of all stalls", y.serves(0, 60), 120);
        b.due("all but the tenth's", y.serves(0, 9), 108);
    }

    private void about() {
        b.of("0 the clock's DAY, 1 WIDE, 2 HIGH, 3 PERSONS, 4 THINGS, 5 GRANTS, 6 CLOUDS, 7 STALLS, 8 RULES, 9 bytes of the "
            + "tape, 10 THINGS that STAND (now, as KNOWN now). NONE for others.");
        int[] want = {10, 10, 6, 3, 3, 1, 1, 1, 1, 20, 3};
        for (int what = 0; what < want.length; what++) {
            b.due("about " + what, Towns.rich().about(what), want[what]);
            b.due("about " + what + " of a new one", new ShadeRegister(7, 5).about(what), what == 1 ? 7 : what == 2 ? 5 : 0);
        }
        for (int what : new int[] {-1, 11, LEAST, MOST}) {
            b.refused("about " + what, x -> x.about(what), NONE);
        }
    }

    private void standing() {
        ShadeRegister x = Towns.rich();
        b.due("fell ahead", Towns.fallen().about(10), 2);
        x.fell(1, 10);
        b.due("fell today", x.about(10), 2);
        x.fell(0, 5);
        x.fell(2, 5);
        b.due("all fell", x.about(10), 0);
        b.due("they are things still", x.about(4), 3);
        x.wall(12, 0, 0);
        b.due("one of height 0 came today", x.about(10), 1);
    }
}
