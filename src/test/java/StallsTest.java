/** Promises 28 to 35: stalls, their places and fees, walks, and the best tree. */
public final class StallsTest {
    private static final int NONE = ShadeRegister.NONE;
    private static final int REFUSED = -1000000000;
    private static final Check CHECK = new Check("StallsTest");

    public static void main(String[] args) {
        stalls();
        places();
        placesThatMeet();
        placesAndThings();
        fees();
        feesByNames();
        feesAsKnown();
        feesRefused();
        walks();
        walksByCharges();
        walksByCells();
        walksAroundThings();
        walksRefused();
        trees();
        treesOfLikeUse();
        treesRefused();
        CHECK.end();
    }

    private static void due(String what, long got, long want) {
        CHECK.due(what, got, want);
    }

    private static void due(String what, boolean got, boolean want) {
        CHECK.due(what, got, want);
    }

    /** Six by five cells, persons 0 .. 2; each hour's sun falls a cell to the right for one of height. */
    private static ShadeRegister town() {
        ShadeRegister x = new ShadeRegister(6, 5);
        for (int i = 0; i < 3; i++) {
            x.person();
        }
        for (int hour = 0; hour < 12; hour++) {
            x.sun(0, hour, 100, 0);
        }
        return x;
    }

    private static void tariff(ShadeRegister x, String text) {
        TariffTest.feed(x, text);
        x.tariff();
    }

    private static void stalls() {
        ShadeRegister x = town();
        due("stall: person 3", x.stall(3, 0, 1), NONE);
        due("stall: person -1", x.stall(-1, 0, 1), NONE);
        due("stall: from -1", x.stall(0, -1, 1), NONE);
        due("stall: to 3600", x.stall(0, 0, 3600), NONE);
        due("stall: to below from", x.stall(0, 2, 1), NONE);
        due("stall on one day", x.stall(0, 3599, 3599), 0);
        for (int i = 1; i < 10; i++) {
            due("stall " + i, x.stall(0, 0, 3599), i);
        }
        due("stall 10", x.stall(0, 0, 1), NONE);
        due("stalls", x.about(7), 10);
    }

    private static void places() {
        ShadeRegister x = town();
        x.stall(0, 0, 9);
        due("none yet", x.placeOf(0, 0), NONE);
        due("place: stall 1", x.place(1, 0, 0), false);
        due("place: stall -1", x.place(-1, 0, 0), false);
        due("place: hour 12", x.place(0, 12, 0), false);
        due("place: hour -1", x.place(0, -1, 0), false);
        due("place: cell 30", x.place(0, 0, 30), false);
        due("place: cell -2", x.place(0, 0, -2), false);
        due("place", x.place(0, 0, 29), true);
        due("placeOf", x.placeOf(0, 0), 29);
        due("placeOf another hour", x.placeOf(0, 1), NONE);
        due("the same again", x.place(0, 0, 29), true);
        due("another", x.place(0, 0, 7), true);
        due("placeOf it", x.placeOf(0, 0), 7);
        due("refused", x.place(0, 0, 30), false);
        due("as before", x.placeOf(0, 0), 7);
        due("none any more", x.place(0, 0, NONE), true);
        due("placeOf none", x.placeOf(0, 0), NONE);
        due("none any more again", x.place(0, 0, NONE), true);
        due("none: stall 1", x.place(1, 0, NONE), false);
        due("none: hour 12", x.place(0, 12, NONE), false);
        due("placeOf: stall 1", x.placeOf(1, 0), NONE);
        due("placeOf: stall -1", x.placeOf(-1, 0), NONE);
        due("placeOf: hour 12", x.placeOf(0, 12), NONE);
        due("placeOf: hour -1", x.placeOf(0, -1), NONE);
    }

    private static void placesThatMeet() {
        ShadeRegister x = town();
        x.stall(0, 0, 9);
        x.stall(0, 9, 20);
        x.stall(0, 10, 20);
        x.stall(0, 5, 5);
        x.place(0, 3, 8);
        due("days that meet in one", x.place(1, 3, 8), false);
        due("another hour", x.place(1, 4, 8), true);
        due("another cell", x.place(1, 3, 9), true);
        due("days that don't meet", x.place(2, 3, 8), true);
        due("days within", x.place(3, 3, 8), false);
        due("days around", x.place(3, 3, 10), true);
        due("days around, its cell", x.place(0, 3, 10), false);
        x.place(0, 3, NONE);
        due("given up", x.place(3, 3, 8), true);
        due("still another's", x.place(1, 3, 8), false);
        x.place(1, 7, 20);
        due("days that meet in one, the other way", x.place(0, 7, 20), false);
        due("days that don't meet, the other way", x.place(3, 7, 20), true);
    }

    private static void placesAndThings() {
        ShadeRegister x = town();
        x.wall(8, 0, 0);
        x.days(10);
        x.stall(0, 0, 9);
        x.stall(0, 0, 10);
        x.stall(0, 30, 40);
        due("all its days are over", x.place(0, 0, 8), true);
        due("one of its days is today", x.place(1, 1, 8), false);
        due("its days are to come", x.place(2, 2, 8), false);
        x.fell(0, 10);
        due("it fell today", x.place(1, 1, 8), true);
        due("it fell ahead of its days", x.place(2, 2, 8), true);
    }

    private static void fees() {
        ShadeRegister x = town();
        x.wall(6, 0, 2);
        x.wall(0, 1, 3);
        x.stall(2, 0, 9);
        x.place(0, 0, 7);
        x.place(0, 1, 8);
        x.place(0, 2, 9);
        x.place(0, 3, 1);
        due("without rules", x.fees(0, 0, NONE), 0);
        tariff(x, "when thing=1 give 1000; give height*10+hour;");
        due("to all", x.fees(0, 0, NONE), 20 + 21 + 1000);
        due("to 0", x.fees(0, 0, 0), 41);
        due("to 1", x.fees(0, 0, 1), 1000);
        due("to 2", x.fees(0, 0, 2), 0);
        x.grant(0, 2, 0, 16 + 1, 11, 3, 4, 1);
        due("to the holder of an hour", x.fees(0, 3, 2), 21);
        due("what is left", x.fees(0, 3, 0), 20);
        due("on another day", x.fees(0, 5, 2), 0);
        x.cloud(5, 0);
        due("in clouds", x.fees(0, 5, 0), 21);
        x.place(0, 1, NONE);
        due("without a place", x.fees(0, 0, 0), 20);
        tariff(x, "when thing=1 give -1000; give 5;");
        due("0 at least each", x.fees(0, 0, NONE), 5);
        tariff(x, "give 100000*100000;");
        for (int hour = 0; hour < 12; hour++) {
            x.place(0, hour, 7);
        }
        due("more than an int holds", x.fees(0, 0, NONE), 12L * 1000000000);
    }

    private static void feesByNames() {
        ShadeRegister x = town();
        for (int month = 1; month < 12; month++) {
            x.sun(month, 4, 100, 0);
        }
        x.tree(6, 0, 3, 50);
        x.pole(7, 0, 9, 0, 0);
        x.stall(0, 0, 99);
        x.stall(0, 0, 99);
        x.place(1, 4, 9);
        String[] names = {"hour", "month", "day", "height", "many", "kind", "thing", "stall"};
        int[] want = {8, 4, 150, 4 + 9, 4, 3, 1, 2};
        for (int i = 0; i < names.length; i++) {
            tariff(x, "give " + names[i] + ";");
            due("fees by " + names[i], x.fees(1, 75, NONE), want[i]);
        }
        tariff(x, "when stall=-1 give 7; give 1;");
        due("a walk's stall is NONE", x.walk(75, 4, 8, 4, 8), 0);
        due("its charges", x.walked(NONE), 14);
    }

    private static void feesAsKnown() {
        ShadeRegister x = town();
        x.wall(6, 0, 2);
        x.stall(0, 0, 99);
        x.place(0, 0, 8);
        tariff(x, "give height;");
        due("as it is known", x.fees(0, 3, NONE), 2);
        x.days(5);
        x.raise(0, 2, 4);
        due("as it is known now", x.fees(0, 3, NONE), 4);
        x.fell(0, 4);
        due("on a day ahead of the fall", x.fees(0, 3, NONE), 4);
        due("on a day behind it", x.fees(0, 4, NONE), 0);
        x.stall(0, 0, 3);
        x.place(1, 1, 6);
        x.wall(12, 0, 3);
        due("where a thing stood on that day", x.fees(1, 3, NONE), 0);
    }

    private static void feesRefused() {
        ShadeRegister x = town();
        x.stall(0, 5, 9);
        due("fees: stall 1", x.fees(1, 5, NONE), REFUSED);
        due("fees: stall -1", x.fees(-1, 5, NONE), REFUSED);
        due("fees: ahead of its days", x.fees(0, 4, NONE), REFUSED);
        due("fees: behind its days", x.fees(0, 10, NONE), REFUSED);
        due("fees: person 3", x.fees(0, 5, 3), REFUSED);
        due("fees: person -2", x.fees(0, 5, -2), REFUSED);
        due("fees", x.fees(0, 5, 0), 0);
    }

    private static void path(ShadeRegister x, String what, long... want) {
        for (int i = 0; i < want.length; i++) {
            due(what + ", cell " + i, x.walked(i), want[i]);
        }
        due(what + ", behind its last cell", x.walked(want.length), NONE);
        due(what + ", cell -2", x.walked(-2), NONE);
    }

    private static void walks() {
        ShadeRegister x = town();
        x.wall(6, 0, 3);
        due("ahead of any", x.walked(NONE), NONE);
        due("ahead of any, cell 0", x.walked(0), NONE);
        due("by the shade", x.walk(0, 0, 0, 7, 5), 5);
        path(x, "by the shade", 0, 1, 7, 8, 9, 3, 4, 5);
        due("too far", x.walk(0, 0, 0, 4, 29), NONE);
        path(x, "the one before stays", 0, 1, 7, 8, 9, 3, 4, 5);
        due("no hour to spare", x.walk(0, 0, 0, 5, 5), 6);
        path(x, "no hour to spare", 0, 1, 2, 3, 4, 5);
        due("one hour", x.walk(0, 11, 3, 11, 3), 1);
        path(x, "one hour", 3);
        due("one hour, two cells", x.walk(0, 11, 3, 11, 4), NONE);
        due("not aslant", x.walk(0, 3, 0, 4, 7), NONE);
        due("beside", x.walk(0, 3, 1, 4, 7), 1);
        due("not around the edge", x.walk(0, 3, 5, 4, 6), NONE);
        due("staying in shade", x.walk(0, 0, 7, 11, 7), 0);
        path(x, "staying in shade", 7, 7, 7, 7, 7, 7, 7, 7, 7, 7, 7, 7);
        x.cloud(0, 2);
        due("clouds", x.walk(0, 0, 7, 11, 7), 1);
    }

    private static void walksByCharges() {
        ShadeRegister x = town();
        x.wall(0, 0, 5);
        x.wall(12, 1, 5);
        tariff(x, "when thing=0 give 10; give 3;");
        due("of like sun", x.walk(0, 0, 7, 2, 9), 3);
        due("the least charges", x.walked(NONE), 0);
        path(x, "but those all are sunny", 7, 8, 9);
        due("of shades", x.walk(0, 0, 7, 4, 9), 2);
        due("the cheaper one", x.walked(NONE), 9);
        path(x, "the cheaper one", 7, 13, 14, 15, 9);
        tariff(x, "when thing=0 give 3; give 10;");
        due("of shades again", x.walk(0, 0, 7, 4, 9), 2);
        due("the other one", x.walked(NONE), 9);
        path(x, "the other one", 7, 1, 2, 3, 9);
        tariff(x, "give -10;");
        due("of like charges", x.walk(0, 0, 7, 4, 9), 2);
        due("0 at least each", x.walked(NONE), 0);
        path(x, "of like charges", 7, 1, 2, 3, 9);
    }

    private static void walksByCells() {
        ShadeRegister x = town();
        due("all sunny", x.walk(0, 0, 14, 3, 14), 4);
        path(x, "the first by cells", 14, 8, 8, 14);
        due("all sunny, on", x.walk(0, 0, 0, 4, 7), 5);
        path(x, "the first by cells, on", 0, 0, 0, 1, 7);
        due("downward", x.walk(0, 2, 0, 6, 12), 5);
        path(x, "downward", 0, 0, 0, 6, 12);
    }

    private static void walksAroundThings() {
        ShadeRegister x = new ShadeRegister(4, 4);
        x.person();
        x.wall(1, 0, 0);
        x.wall(5, 0, 0);
        x.wall(9, 0, 0);
        due("onto a wall", x.walk(0, 0, 0, 1, 1), NONE);
        due("from a wall", x.walk(0, 0, 1, 1, 2), NONE);
        due("around walls", x.walk(0, 0, 0, 8, 2) == NONE, false);
        path(x, "around walls", 0, 4, 8, 12, 13, 14, 10, 6, 2);
        due("too few hours", x.walk(0, 0, 0, 7, 2), NONE);
        x.stall(0, 0, 5);
        x.place(0, 4, 13);
        due("a stall in the way", x.walk(0, 0, 0, 8, 2), NONE);
        due("an hour earlier it isn't there", x.walk(0, 1, 0, 9, 2) == NONE, false);
        due("on another day neither", x.walk(6, 0, 0, 8, 2) == NONE, false);
        x.days(6);
        x.fell(1, 6);
        due("where a wall fell", x.walk(6, 0, 4, 2, 6) == NONE, false);
        path(x, "where a wall fell", 4, 5, 6);
        due("on a day ahead of the fall", x.walk(5, 0, 4, 2, 6), NONE);
    }

    private static void walksRefused() {
        ShadeRegister x = town();
        due("walk: day 3600", x.walk(3600, 0, 0, 0, 0), NONE);
        due("walk: day -1", x.walk(-1, 0, 0, 0, 0), NONE);
        due("walk: hour -1", x.walk(0, -1, 0, 0, 0), NONE);
        due("walk: hour 12", x.walk(0, 0, 0, 12, 0), NONE);
        due("walk: hours 1 to 0", x.walk(0, 1, 0, 0, 0), NONE);
        due("walk: from cell -1", x.walk(0, 0, -1, 1, 0), NONE);
        due("walk: from cell 30", x.walk(0, 0, 30, 1, 29), NONE);
        due("walk: to cell -1", x.walk(0, 0, 0, 1, -1), NONE);
        due("walk: to cell 30", x.walk(0, 0, 29, 1, 30), NONE);
        due("none walked", x.walked(NONE), NONE);
        due("walk", x.walk(3599, 0, 0, 0, 0), 1);
    }

    private static void trees() {
        ShadeRegister x = town();
        x.stall(0, 0, 9);
        x.place(0, 0, 3);
        x.place(0, 1, 4);
        x.place(0, 2, 15);
        due("height 1: one of three", x.best(0, 1), 2);
        due("height 1: serves", x.serves(0, 1), 1);
        due("height 2: two in a row", x.best(0, 2), 2);
        due("height 2: serves", x.serves(0, 2), 2);
        x.place(0, 3, 2);
        due("not on a stall's cell, whatever the hour", x.best(0, 2), 1);
        due("height 3 from there", x.best(0, 3), 1);
        due("height 3 serves", x.serves(0, 3), 3);
        x.wall(1, 0, 0);
        due("not on a wall", x.best(0, 3), 0);
        due("not on a wall: serves", x.serves(0, 3), 2);
        x.cloud(0, 3);
        due("no shade in clouds", x.serves(0, 3), 1);
        due("on another day of its", x.serves(1, 3), 2);
        due("on no day of its", x.best(10, 3), 0);
        due("on no day of its: serves", x.serves(10, 3), 0);
    }

    private static void treesOfLikeUse() {
        ShadeRegister x = town();
        x.sun(0, 5, 30, 0);
        x.stall(0, 0, 9);
        x.place(0, 5, 4);
        due("each place once", x.serves(0, 60), 1);
        due("of like ones the lowest", x.best(0, 60), 0);
        x.wall(3, 0, 2);
        due("in shade already", x.serves(0, 60), 0);
        x.raise(0, 0, 0);
        due("a wall of no height", x.serves(0, 60), 1);
        ShadeRegister z = town();
        z.sun(0, 0, 60, 100);
        z.sun(0, 1, 0, -100);
        z.stall(0, 0, 9);
        z.place(0, 0, 21);
        // Cell (3, 3) is shaded from (2, 2) with 1 and from (2, 1) with 2: (250 + 120, 150 + 200).
        due("aslant, with 1", z.best(0, 1), 14);
        due("aslant, with 2", z.best(0, 2), 8);
        z.place(0, 1, 2);
        due("from above and below", z.serves(0, 2), 2);
        due("from above and below: where", z.best(0, 2), 8);

        ShadeRegister y = town();
        y.wall(4, 0, 0);
        y.days(5);
        y.fell(0, 5);
        y.stall(0, 0, 9);
        y.place(0, 5, 4);
        due("its place was built on that day", y.serves(4, 3), 0);
        due("its place is open then", y.serves(5, 3), 1);
    }

    private static void treesRefused() {
        ShadeRegister x = town();
        due("best: day 3600", x.best(3600, 1), NONE);
        due("best: day -1", x.best(-1, 1), NONE);
        due("best: height 0", x.best(0, 0), NONE);
        due("best: height 61", x.best(0, 61), NONE);
        due("serves: day 3600", x.serves(3600, 1), NONE);
        due("serves: day -1", x.serves(-1, 1), NONE);
        due("serves: height 0", x.serves(0, 0), NONE);
        due("serves: height 61", x.serves(0, 61), NONE);
        ShadeRegister y = new ShadeRegister(4, 4);
        y.person();
        for (int cell = 0; cell < 15; cell++) {
            y.wall(cell, 0, 0);
        }
        due("one cell is left", y.best(0, 60), 15);
        y.stall(0, 0, 9);
        y.place(0, 0, 15);
        due("no cell will do", y.best(0, 60), NONE);
        due("no cell will do: serves", y.serves(0, 60), NONE);
        due("on another day it will", y.best(10, 60), 15);
    }
}
