import java.util.function.Supplier;

/** The bounds that parts II and III of the document's terms name: shadows, grants, accounts, bills, measuring. */
final class ShadeTermsBounds {
    private static final int NONE = ShadeRegister.NONE;
    private static final int LEAST = Integer.MIN_VALUE;
    private static final int MOST = Integer.MAX_VALUE;

    private final Bounds b;

    private ShadeTermsBounds(Bounds b) {
        this.b = b;
    }

    static void all(Bounds b) {
        ShadeTermsBounds t = new ShadeTermsBounds(b);
        t.pointsOfHeights();
        t.pointsToBelow();
        t.cellsOfShadow();
        t.open();
        t.shadedBy();
        t.numberOfGrants();
        t.hoursOfGrants();
        t.monthsOfGrants();
        t.daysOfGrants();
        t.deaths();
        t.holders();
        t.accounts();
        t.bills();
        t.billsByEntries();
        t.tips();
        t.nothingMended();
        t.mendedFrom();
        t.mendedTrees();
        t.measurings();
    }

    private static ShadeRegister wide(int height, int hour, int ux, int uy) {
        ShadeRegister x = new ShadeRegister(16, 12);
        x.person();
        x.sun(0, hour, ux, uy);
        x.wall(0, 0, height);
        return x;
    }

    private void pointsOfHeights() {
        b.of("THE SHADOW of a THING on DAY d, HOUR h, KNOWN on k: for j of 1 .. HEIGHT the point (100 x + 50 + j (UX + "
            + "LX), 100 y + 50 + j (UY + LY)), (x, y) being its CELL: the CELL in which that is (/ 100, to below).");
        b.due("height 0 has no point", wide(0, 0, 100, 0).shadow(0, 0, 0, 0), 0);
        b.due("height 1 has one", wide(1, 0, 100, 0).shadow(0, 0, 0, 0), 1);
        b.due("height 1: that of 1", wide(1, 0, 100, 0).shaded(1, 0, 0, 0), 1);
        b.due("height 1: not that of 2", wide(1, 0, 100, 0).shaded(2, 0, 0, 0), 0);
        // By 16 for one of height the point of 60 is (1010, 50), the first in cell 10; that of 59 is (994, 50).
        b.due("height 60 has that of 60", wide(60, 0, 16, 0).shaded(10, 0, 0, 0), 1);
        b.due("height 59 has not", wide(59, 0, 16, 0).shaded(10, 0, 0, 0), 0);
        b.due("height 60: ten cells", wide(60, 0, 16, 0).shadow(0, 0, 0, 0), 10);
        b.due("height 59: nine cells", wide(59, 0, 16, 0).shadow(0, 0, 0, 0), 9);
        b.due("height 60, downward", wide(60, 0, 0, 16).shaded(160, 0, 0, 0), 1);
        b.due("height 59, downward", wide(59, 0, 0, 16).shaded(160, 0, 0, 0), 0);
    }

    /** A thing on cell (1, 1) of 16 by 12, of height 1: points right at the edges of cells and of the ground. */
    private void pointsToBelow() {
        int[][] sunsAndCells = {{49, 0, 17}, {50, 0, 18}, {149, 0, 18}, {150, 0, 19}, {-50, 0, 17}, {-51, 0, 16},
            {-150, 0, 16}, {-151, 0, NONE}, {-250, 0, NONE}, {0, 49, 17}, {0, 50, 33}, {0, -50, 17}, {0, -51, 1},
            {0, -150, 1}, {0, -151, NONE}, {0, -250, NONE}, {-150, -150, 0}, {-151, -150, NONE}, {-150, -151, NONE}};
        for (int[] one : sunsAndCells) {
            ShadeRegister x = Towns.flat(16, 12, 1);
            x.sun(0, 1, one[0], one[1]);
            x.wall(17, 0, 1);
            boolean seen = one[2] != NONE && one[2] != 17;
            b.due("sun " + one[0] + " " + one[1] + ": shadow", x.shadow(0, 0, 1, 0), seen ? 1 : 0);
            b.due("sun " + one[0] + " " + one[1] + ": cell", seen ? x.shaded(one[2], 0, 1, 0) : 0, seen ? 1 : 0);
            b.due("sun " + one[0] + " " + one[1] + ": cell 0", x.shaded(0, 0, 1, 0), one[2] == 0 ? 1 : 0);
        }
        int[][] farSuns = {{149, 0, 1}, {150, 0, 0}, {0, 149, 1}, {0, 150, 0}, {149, 149, 1}, {150, 149, 0}, {149, 150, 0}};
        for (int[] one : farSuns) {
            ShadeRegister x = Towns.flat(16, 12, 1);
            x.sun(0, 1, one[0], one[1]);
            x.wall(16 * 10 + 14, 0, 1);
            b.due("near the last cell, sun " + one[0] + " " + one[1], x.shadow(0, 0, 1, 0), one[2]);
        }
    }

    private void cellsOfShadow() {
        b.of("Those on the GROUND, but its own one, once each; none in CLOUDS.");
        ShadeRegister x = Towns.flat(4, 4, 1);
        x.wall(4, 0, 60);
        x.sun(0, 1, 10, 0);
        x.sun(0, 2, -100, 0);
        x.sun(0, 3, 0, -100);
        b.due("up to the ground's edge", x.shadow(0, 0, 0, 0), 3);
        b.due("once each, not its own", x.shadow(0, 0, 1, 0), 3);
        b.due("none to the left", x.shadow(0, 0, 2, 0), 0);
        b.due("one above", x.shadow(0, 0, 3, 0), 1);
        b.due("the row above isn't had", x.shaded(3, 0, 0, 0), 0);
        b.due("the row below isn't had", x.shaded(8, 0, 0, 0), 0);
        b.due("its own one", x.shaded(4, 0, 1, 0), 0);
        x.cloud(1, 0);
        b.due("in clouds", x.shadow(0, 1, 0, 0), 0);
        b.due("in clouds: its cell", x.shaded(5, 1, 0, 0), 0);
        b.due("in clouds: its parts", x.parts(0, 5, 1, 0, 0), 0);
        b.due("on the day ahead", x.shadow(0, 0, 0, 0), 3);
        b.due("on the day behind", x.shadow(0, 2, 0, 0), 3);
    }

    private void open() {
        b.of("A CELL on which a THING STANDS is not OPEN: no shade counts there.");
        ShadeRegister x = Towns.flat();
        x.wall(0, 0, 3);
        x.days(5);
        x.wall(2, 1, 0);
        b.due("ahead of from", x.shaded(2, 4, 0, 5), 1);
        b.due("from from on", x.shaded(2, 5, 0, 5), 0);
        b.due("no parts", x.parts(0, 2, 5, 0, 5), 0);
        b.due("not in the shadow", x.shadow(0, 5, 0, 5), 2);
        b.due("not in the account", x.account(0, 4, 5, 5), 5 * 27720);
        b.due("behind it still", x.shaded(3, 5, 0, 5), 1);
        b.due("not known yet", x.shaded(2, 5, 0, 4), 1);
        x.days(5);
        x.fell(1, 8);
        b.due("ahead of its fall", x.shaded(2, 7, 0, 10), 0);
        b.due("from its fall on", x.shaded(2, 8, 0, 10), 1);
        b.due("its fall not known", x.shaded(2, 8, 0, 9), 0);
    }

    private void shadedBy() {
        b.of("SHADED BY: of an OPEN CELL the THINGS whose SHADOWS have it, by numbers, the first 12 of these: n of them, "
            + "each has 27720 / n PARTS of that CELL and HOUR.");
        int[] parts = {0, 27720, 13860, 9240, 6930, 5544, 4620, 3960, 3465, 3080, 2772, 2520, 2310, 2310, 2310};
        for (int n = 0; n <= 14; n++) {
            ShadeRegister x = Towns.flat(16, 4, 16);
            for (int i = 0; i < n; i++) {
                x.wall(i, i, 15);
            }
            int seen = Math.min(12, n);
            b.due(n + " things", x.shaded(15, 0, 0, 0), (1 << seen) - 1);
            for (int i = 0; i < n; i++) {
                b.due(n + " things: parts of " + i, x.parts(i, 15, 0, 0, 0), i < 12 ? parts[n] : 0);
            }
            b.due(n + " things: of nobody else", x.parts(15, 15, 0, 0, 0), 0);
            if (n > 0) {
                b.due(n + " things: shadow of the last", x.shadow(n - 1, 0, 0, 0), 16 - n);
            }
        }
        // By numbers, not by cells: the last thing that comes has no part, though it stands nearest.
        ShadeRegister y = Towns.flat(16, 4, 2);
        for (int i = 13; i >= 1; i--) {
            y.wall(i, i == 1 ? 1 : 0, 15);
        }
        b.due("the 13th by number", y.parts(1, 14, 0, 0, 0), 0);
        b.due("the first twelve by number", y.shaded(14, 0, 0, 0), 4095);
        y.fell(11, 0);
        b.due("the 13th comes up", y.parts(1, 14, 0, 0, 0), 2310);
        b.due("the set then", y.shaded(14, 0, 0, 0), 8191 - 2048);
    }

    private static ShadeRegister granted() {
        ShadeRegister x = Towns.flat();
        x.wall(0, 0, 3);
        for (int i = 0; i < 60; i++) {
            x.grant(i % 3, (i + 1) % 3, 0, 11, 11, 0, 10, 1);
        }
        return x;
    }

    private void numberOfGrants() {
        b.of("GRANTS (60 at most, in the order in which they were told):");
        ShadeRegister x = Towns.flat();
        x.wall(0, 0, 3);
        b.due("no grant", x.holder(0, 0, 0, 0), 0);
        for (int i = 0; i < 60; i++) {
            b.due("grant " + i, x.grant(i % 3, (i + 1) % 3, 0, 11, 11, 0, 10, 1), i);
            b.due("each from the holder: " + i, x.holder(0, 10, 0, 0), (i + 1) % 3);
        }
        b.refused(ShadeTermsBounds::granted, "a 61st", y -> y.grant(0, 1, 0, 11, 11, 0, 10, 1), NONE);
        ShadeRegister z = Towns.flat();
        z.wall(0, 0, 3);
        z.grant(1, 2, 0, 11, 11, 0, 10, 0);
        z.grant(0, 1, 0, 11, 11, 0, 10, 0);
        b.due("in that order alone", z.holder(0, 0, 0, 0), 1);
    }

    private void hoursOfGrants() {
        b.of("a GIVER, a TAKER, a THING, HOURS from one to one (both),");
        int[][] spans = {{0, 0}, {0, 11}, {11, 11}, {3, 5}, {4, 4}, {0, 1}, {10, 11}};
        for (int[] span : spans) {
            ShadeRegister x = Towns.walled();
            b.due("hours " + span[0] + " to " + span[1], x.grant(0, 1, 0, 16 * span[0] + span[1], 11, 0, 0, 0), 0);
            for (int hour = 0; hour < 12; hour++) {
                boolean within = hour >= span[0] && hour <= span[1];
                b.due("hours " + span[0] + " to " + span[1] + " in " + hour, x.holder(0, 0, hour, 0), within ? 1 : 0);
            }
        }
        int[] wrong = {-1, 12, 15, 16, 16 * 5 + 4, 16 * 5 + 12, 16 * 11, 16 * 11 + 10, 16 * 11 + 12, 16 * 11 + 15,
            16 * 12, 16 * 12 + 11, 16 * 12 + 12, 16 * 15 + 15, 256, 256 + 11, -16, -5, LEAST, MOST};
        for (int hours : wrong) {
            b.refused("hours " + hours, x -> x.grant(0, 1, 0, hours, 11, 0, 9, 0), NONE);
        }
    }

    private void monthsOfGrants() {
        b.of("MONTHS from one to one (both; the second may be below the first: over the year's end),");
        int[][] spans = {{0, 0}, {0, 11}, {11, 11}, {11, 0}, {10, 1}, {5, 4}, {1, 0}, {4, 6}, {6, 4}, {11, 10}};
        for (int[] span : spans) {
            ShadeRegister x = Towns.walled();
            b.due("months " + span[0] + " to " + span[1], x.grant(0, 1, 0, 11, 16 * span[0] + span[1], 0, 0, 0), 0);
            for (int month = 0; month < 12; month++) {
                boolean within = span[0] <= span[1] ? month >= span[0] && month <= span[1]
                    : month >= span[0] || month <= span[1];
                String what = "months " + span[0] + " to " + span[1] + " in " + month;
                b.due(what, x.holder(0, 30 * month, 0, 0), within ? 1 : 0);
                b.due(what + ", its last day", x.holder(0, 3240 + 30 * month + 29, 0, 0), within ? 1 : 0);
            }
        }
        int[] wrong = {-1, 12, 15, 16 * 11 + 12, 16 * 11 + 15, 16 * 12, 16 * 12 + 11, 16 * 12 + 12, 256, -16, LEAST, MOST};
        for (int months : wrong) {
            b.refused("months " + months, x -> x.grant(0, 1, 0, 11, months, 0, 9, 0), NONE);
        }
    }

    private void daysOfGrants() {
        b.of("DAYS from one to one (both), a sort: 0 sale (holds from its first DAY on, whatever the last), 1 lease (on "
            + "its DAYS), 2 will (on DAYS from that on which the GIVER DIED; its DAYS don't count), the DAY on which it "
            + "was TOLD.");
        int[][] days = {{19, 0, 0, 0}, {20, 1, 1, 0}, {22, 1, 1, 0}, {23, 1, 0, 0}, {29, 1, 0, 0}, {30, 1, 0, 1},
            {3599, 1, 0, 1}, {0, 0, 0, 0}};
        for (int sort = 0; sort < 3; sort++) {
            ShadeRegister x = Towns.walled();
            x.days(5);
            b.due("sort " + sort, x.grant(0, 1, 0, 11, 11, 20, 22, sort), 0);
            x.days(30);
            x.died(0, 30);
            for (int[] one : days) {
                b.due("sort " + sort + " on " + one[0], x.holder(0, one[0], 0, 35), one[1 + sort]);
                b.due("sort " + sort + " on " + one[0] + ", ahead of telling", x.holder(0, one[0], 0, 4), 0);
            }
            b.due("sort " + sort + ", on the day of telling", x.holder(0, 22, 0, 5), sort == 2 ? 0 : 1);
        }
        ShadeRegister y = Towns.walled();
        y.grant(0, 1, 0, 11, 11, 7, 7, 1);
        b.due("one day alone, ahead", y.holder(0, 6, 0, 0), 0);
        b.due("one day alone", y.holder(0, 7, 0, 0), 1);
        b.due("one day alone, behind", y.holder(0, 8, 0, 0), 0);
        for (int sort : new int[] {-1, 3, LEAST, MOST}) {
            b.refused("sort " + sort, x -> x.grant(0, 1, 0, 11, 11, 0, 9, sort), NONE);
        }
        for (int sort = 0; sort < 3; sort++) {
            int one = sort;
            b.refused("to below from, sort " + sort, x -> x.grant(0, 1, 0, 11, 11, 9, 8, one), NONE);
        }
    }

    private void deaths() {
        b.of("DIED: a PERSON's DAY, and that on which it was TOLD.");
        ShadeRegister x = Towns.walled();
        x.grant(0, 1, 0, 11, 11, 3, 3, 2);
        x.days(20);
        b.due("alive", x.holder(0, 20, 0, 20), 0);
        x.died(0, 12);
        b.due("a day ahead", x.holder(0, 11, 0, 20), 0);
        b.due("that day", x.holder(0, 12, 0, 20), 1);
        b.due("not known", x.holder(0, 12, 0, 19), 0);
        b.due("not known, on a late day", x.holder(0, 3599, 0, 19), 0);
        b.due("known late", x.holder(0, 12, 0, 3599), 1);
        ShadeRegister y = Towns.walled();
        y.grant(0, 1, 0, 11, 11, 3, 3, 2);
        y.died(1, 0);
        b.due("the taker's death", y.holder(0, 3, 0, 0), 0);
        y.died(0, 0);
        b.due("on the first day of all", y.holder(0, 0, 0, 0), 1);
        y.grant(1, 2, 0, 11, 11, 9, 9, 2);
        b.due("a will told behind the death", y.holder(0, 0, 0, 0), 2);
    }

    private void holders() {
        b.of("THE HOLDER of a THING's shade on d, h, KNOWN on k: at first the OWNER; GRANTS TOLD on k or ahead one behind "
            + "the other: each that is of this THING, this HOUR, this DAY's MONTH, and holds on d (as KNOWN on k), and "
            + "whose GIVER is HOLDER so far: its TAKER is then.");
        ShadeRegister x = Towns.walled();
        x.wall(10, 0, 3);
        x.days(5);
        x.grant(0, 1, 0, 16 * 2 + 3, 16 * 1 + 2, 0, 0, 0);
        x.days(1);
        x.grant(1, 2, 0, 16 * 3 + 4, 16 * 2 + 3, 0, 0, 0);
        b.due("the owner", x.holder(0, 30, 2, 4), 0);
        b.due("told on k", x.holder(0, 30, 2, 5), 1);
        b.due("both", x.holder(0, 60, 3, 6), 2);
        b.due("the second told behind k", x.holder(0, 60, 3, 5), 1);
        b.due("another hour for the second", x.holder(0, 60, 2, 6), 1);
        b.due("another month for the second", x.holder(0, 59, 3, 6), 1);
        b.due("another hour for the first", x.holder(0, 60, 4, 6), 0);
        b.due("another month for the first", x.holder(0, 90, 3, 6), 0);
        b.due("another thing", x.holder(1, 60, 3, 6), 0);
    }

    private void accounts() {
        b.of("ACCOUNT of a PERSON over DAYS (60 at most), KNOWN on k: the PARTS of all OPEN CELLS, HOURS, DAYS of which it "
            + "is HOLDER.");
        ShadeRegister x = Towns.flat(16, 4, 3);
        x.sun(0, 11, -100, 0);
        x.wall(0, 0, 2);
        x.wall(63, 1, 4);
        b.due("one day, hour 0", x.account(0, 0, 0, 0), 2 * 27720);
        b.due("one day, hour 11 and the last row", x.account(1, 0, 0, 0), 4 * 27720);
        b.due("the last day of the sun's month", x.account(1, 29, 30, 0), 4 * 27720);
        b.due("59 days", x.account(0, 0, 58, 0), 59L * 2 * 27720);
        b.due("60 days", x.account(0, 0, 59, 0), 60L * 2 * 27720);
        b.due("61 days", x.account(0, 0, 60, 0), NONE);
        b.due("nobody's", x.account(2, 0, 59, 0), 0);
        x.wall(1, 2, 1);
        b.due("two on one cell", x.account(2, 0, 0, 0), 13860);
        b.due("open cells alone", x.account(0, 0, 0, 0), 13860);
        x.grant(0, 2, 0, 0, 11, 5, 6, 1);
        b.due("by a lease, its days", x.account(2, 4, 7, 0), 4 * 13860 + 2 * 13860);
        b.due("what is left", x.account(0, 4, 7, 0), 2 * 13860);
        x.days(3);
        x.raise(0, 3, 4);
        b.due("as known now", x.account(0, 3, 3, 3), 13860 + 2 * 27720);
        b.due("as known ahead", x.account(0, 3, 3, 2), 13860);
        ShadeRegister corner = Towns.still(4, 4);
        corner.person();
        corner.sun(0, 0, -100, 0);
        corner.wall(1, 0, 1);
        b.due("the first cell", corner.account(0, 0, 0, 0), 27720);
        corner.sun(0, 0, 100, 0);
        corner.wall(14, 0, 1);
        b.due("the last cell", corner.account(0, 0, 0, 0), 2 * 27720);
        ShadeRegister y = Towns.flat(16, 12, 1);
        for (int month = 0; month < 2; month++) {
            for (int hour = 0; hour < 12; hour++) {
                y.sun(month, hour, 100, 0);
            }
        }
        for (int row = 0; row < 12; row++) {
            y.wall(16 * row, 0, 15);
        }
        b.due("more than an int holds", y.account(0, 0, 59, 0), 60L * 12 * 12 * 15 * 27720);
    }

    private void bills() {
        b.of("BILL of a HEIGHT of a THING from DAY d on: as KNOWN on the clock's DAY, the THING having one ENTRY more (from "
            + "d on, that HEIGHT), against how it is: for each PERSON what it has more (or less) over A YEAR: the DAYS d, "
            + "d + 30, .., d + 330, each 30 times.");
        long one = 30L * 27720;
        ShadeRegister x = Towns.walled();
        b.due("a year", x.bill(0, 4, 7, 0), 12 * one);
        b.due("less", x.bill(0, 1, 7, 0), -24 * one);
        b.due("as high as it is", x.bill(0, 3, 7, 0), 0);
        int[][] cloudsAndDays = {{7, 11}, {37, 11}, {337, 11}, {6, 12}, {8, 12}, {336, 12}, {338, 12}, {367, 12}};
        for (int[] pair : cloudsAndDays) {
            ShadeRegister y = Towns.walled();
            y.cloud(pair[0], 0);
            b.due("clouds on " + pair[0], y.bill(0, 4, 7, 0), pair[1] * one);
        }
        x.grant(0, 1, 0, 11, 16 * 1 + 2, 0, 3599, 0);
        b.due("the holder of two months", x.bill(0, 4, 7, 1), 2 * one);
        b.due("the owner", x.bill(0, 4, 7, 0), 10 * one);
        b.due("over the year's end", x.bill(0, 4, 355, 1), 2 * one);
        b.due("nothing is told", x.thing(0, 4), 1);
        b.due("nobody else", x.bill(0, 4, 7, 2), 0);
    }

    private void billsByEntries() {
        long one = 30L * 27720;
        ShadeRegister x = Towns.walled();
        x.raise(0, 67, 2);
        b.due("up to a later entry's day", x.bill(0, 4, 7, 0), 2 * one);
        b.due("from that entry's day", x.bill(0, 4, 67, 0), 24 * one);
        b.due("ahead of its day by one", x.bill(0, 4, 66, 0), one);
        b.due("behind its day by one", x.bill(0, 4, 68, 0), 24 * one);
        for (int i = 3; i <= 40; i++) {
            x.raise(0, 67, 2);
        }
        b.due("though forty are there", x.bill(0, 4, 67, 0), 24 * one);
        b.due("forty are there", x.thing(0, 4), 40);
        x.days(97);
        x.fell(0, 97);
        b.due("up to the day ahead of its fall", x.bill(0, 4, 67, 0), 2 * one);
        b.due("from the day ahead of its fall", x.bill(0, 4, 96, 0), 2 * one);
        b.due("from the day of its fall", x.bill(0, 4, 97, 0), 0);
        ShadeRegister y = Towns.flat(16, 4, 2);
        y.tree(0, 0, 1, 30);
        // On days 0, 30, .. it has 1 .. 12 cells; with 5 at first 5 .. 15, 15 (of 16): four more, on the last three.
        b.due("a tree grows on", y.bill(0, 5, 0, 0), (11 * 4 + 3) * one);
        ShadeRegister z = Towns.walled();
        z.wall(2, 1, 1);
        // Cell 3 has both; the wall that is raised from 3 to 0 leaves it whole to the other one.
        b.due("what another has more", z.bill(0, 0, 0, 1), 12 * one / 2);
        b.due("what it has less", z.bill(0, 0, 0, 0), -12 * one - 12 * one / 2);
    }

    private void tips() {
        b.of("MEASURED: on the clock's DAY, in an HOUR, the TIP of a THING's SHADOW lies in a CELL: HEIGHTS j (1 .. 60) that "
            + "are so: the point of j is in it.");
        // By 16 the points of 60 .. 65 lie in cell 10, those of 66 and on behind it.
        b.due("60 is so", wide(5, 0, 16, 0).measure(0, 0, 10), 60);
        b.due("none up to 60 is so", wide(5, 0, 16, 0).measure(0, 0, 11), NONE);
        b.due("1 is so", wide(5, 0, 100, 0).measure(0, 0, 1), 1);
        b.due("0 is none", wide(5, 0, 100, 0).measure(0, 0, 0), NONE);
        b.due("its own cell", wide(5, 0, 16, 0).measure(0, 0, 0), 3);
        b.due("its own cell, all are so", wide(5, 0, 0, 0).measure(0, 0, 0), 5);
        b.due("its own cell, of height 0", wide(0, 0, 0, 0).measure(0, 0, 0), 1);
        b.due("none beside the line", wide(5, 0, 100, 0).measure(0, 0, 17), NONE);
        b.due("none over the edge", wide(5, 0, -100, 0).measure(0, 0, 15), NONE);
        ShadeRegister x = wide(5, 0, 100, 0);
        x.wall(4, 0, 1);
        b.due("a cell that isn't open", x.measure(0, 0, 4), 4);
        ShadeRegister y = Towns.flat(16, 12, 1);
        y.sun(0, 0, -100, 0);
        y.days(30);
        y.pole(0, 0, 3, 50, 50);
        b.due("by this month's sun and its lean", y.measure(0, 0, 16 * 2 + 6), 4);
    }

    private void nothingMended() {
        b.of("If the HEIGHT (as KNOWN now) is one: nothing is mended.");
        // By 16 heights 4 .. 9 have cell 1.
        int[][] heights = {{3, 4}, {4, 4}, {5, 5}, {8, 8}, {9, 9}, {10, 9}, {0, 4}, {60, 9}};
        for (int[] one : heights) {
            ShadeRegister x = wide(one[0], 0, 16, 0);
            b.due("of height " + one[0], x.measure(0, 0, 1), one[1]);
            b.due("of height " + one[0] + ": entries", x.thing(0, 4), one[0] == one[1] ? 1 : 2);
            b.due("of height " + one[0] + ": measured", x.thing(0, 6), 0);
        }
    }

    /** A wall of height 3 from day 3; measured on a day; told of height 5 from a day; measured 7 on day 20. */
    private void mendedFrom() {
        b.of("Else it is MENDED: an ENTRY, TOLD on this DAY, that holds from the DAY behind the THING's last measuring "
            + "(FROM, if there was none), or from the DAY of the ENTRY by which it has its HEIGHT, if that is later, with "
            + "the nearest of these HEIGHTS (of two the lower);");
        int[][] days = {{NONE, NONE, 3}, {NONE, 3, 3}, {NONE, 4, 4}, {NONE, 20, 20}, {NONE, 21, 3}, {10, NONE, 11},
            {10, 10, 11}, {10, 11, 11}, {10, 12, 12}, {10, 20, 20}, {10, 21, 11}, {3, NONE, 4}, {19, NONE, 20},
            {19, 19, 20}, {19, 20, 20}};
        for (int[] one : days) {
            ShadeRegister x = Towns.flat();
            x.days(3);
            x.wall(0, 0, 3);
            int entries = 1;
            if (one[0] != NONE) {
                if (one[0] > 3) {
                    x.days(one[0] - 3);
                }
                x.measure(0, 0, 3);
            }
            x.days(20 - Math.max(3, one[0]));
            if (one[1] != NONE) {
                x.raise(0, one[1], 5);
                entries++;
            }
            String what = "measured on " + one[0] + ", told from " + one[1];
            b.due(what, x.measure(0, 0, 7), 7);
            b.due(what + ": entries", x.thing(0, 4), entries + 1);
            b.due(what + ": from", x.entry(0, entries, 0), one[2]);
            b.due(what + ": height", x.entry(0, entries, 1), 7);
            b.due(what + ": told", x.entry(0, entries, 2), 20);
            b.due(what + ": on that day", x.height(0, one[2], 20), 7);
            b.due(what + ": measured", x.thing(0, 6), 20);
        }
    }

    private void mendedTrees() {
        b.of("of a TREE less what it has GROWN from that DAY to this one (0 at least).");
        // A tree of height 20 that grows one in ten days, measured on a day in a cell whose number is the height.
        int[][] cases = {{9, 5, 5, 5}, {10, 5, 4, 5}, {19, 5, 4, 5}, {20, 5, 3, 5}, {49, 5, 1, 5}, {50, 5, 0, 5},
            {59, 5, 0, 5}, {60, 5, 0, 6}, {70, 1, 0, 7}};
        for (int[] one : cases) {
            ShadeRegister x = Towns.flat(16, 4, 1);
            x.tree(0, 0, 20, 10);
            x.days(one[0]);
            b.due("on day " + one[0], x.measure(0, 0, one[1]), one[3]);
            b.due("on day " + one[0] + ": its entry", x.entry(0, 1, 1), one[2]);
            b.due("on day " + one[0] + ": from", x.entry(0, 1, 0), 0);
        }
        ShadeRegister y = Towns.flat(16, 4, 1);
        y.tree(0, 0, 1, 10);
        y.days(10);
        b.due("as it grew", y.measure(0, 0, 2), 2);
        b.due("no entry", y.thing(0, 4), 1);
        y.days(20);
        b.due("from behind the last measuring", y.measure(0, 0, 9), 9);
        b.due("from day 11", y.entry(0, 1, 0), 11);
        b.due("19 days are one of height", y.entry(0, 1, 1), 8);
        b.due("on day 20", y.height(0, 20, 30), 8);
        b.due("on day 21", y.height(0, 21, 30), 9);
        b.due("on day 10 as before", y.height(0, 10, 30), 2);
    }

    private static ShadeRegister full() {
        ShadeRegister x = Towns.walled();
        for (int i = 2; i <= 40; i++) {
            x.raise(0, 0, 3);
        }
        return x;
    }

    private void measurings() {
        b.of("A measuring is one if some HEIGHT is so.");
        Supplier<ShadeRegister> walled = Towns::walled;
        b.refused(walled, "none is so", x -> x.measure(0, 0, 15), NONE);
        b.refused(ShadeTermsBounds::full, "one is so, but forty entries are there", x -> x.measure(0, 0, 4), NONE);
        ShadeRegister x = Towns.walled();
        x.measure(0, 0, 15);
        b.due("none was one", x.thing(0, 6), NONE);
        b.due("so it is measured on that day", x.measure(0, 0, 3), 3);
        b.due("one was", x.thing(0, 6), 0);
        ShadeRegister y = full();
        b.due("forty entries, none is wanted", y.measure(0, 0, 3), 3);
        b.due("it was one", y.thing(0, 6), 0);
    }
}
