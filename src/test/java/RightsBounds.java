/** The bounds that promises 16 to 22 name. */
final class RightsBounds {
    private static final int NONE = ShadeRegister.NONE;
    private static final int LEAST = Integer.MIN_VALUE;
    private static final int MOST = Integer.MAX_VALUE;

    private final Bounds b;

    private RightsBounds(Bounds b) {
        this.b = b;
    }

    static void all(Bounds b) {
        RightsBounds t = new RightsBounds(b);
        t.grant();
        t.grantRefused();
        t.holder();
        t.shaded();
        t.parts();
        t.shadow();
        t.account();
        t.bill();
        t.billRefused();
    }

    private static ShadeRegister sixtyGrants() {
        ShadeRegister x = Towns.rich();
        for (int i = 1; i < 60; i++) {
            x.grant(1, 2, 0, 11, 11, 0, 9, 1);
        }
        return x;
    }

    private void grant() {
        b.of("A GRANT: its number. NONE for others, GIVER and TAKER are one, or if there are 60. (hours 16 a + b, months "
            + "16 m + n; from and to DAYS, to not below from.)");
        ShadeRegister x = Towns.walled();
        b.due("least of all", x.grant(0, 1, 0, 0, 0, 0, 0, 0), 0);
        b.due("most of all", x.grant(2, 0, 0, 16 * 11 + 11, 16 * 11 + 11, 3599, 3599, 2), 1);
        b.due("all hours, all days", x.grant(1, 2, 0, 11, 11, 0, 3599, 1), 2);
        b.due("from a month to the one ahead", x.grant(1, 2, 0, 11, 16 * 11 + 10, 0, 3599, 1), 3);
        b.due("grants", x.about(5), 4);
        ShadeRegister y = Towns.walled();
        for (int i = 0; i < 60; i++) {
            b.due("grant " + i, y.grant(0, 1, 0, 11, 11, 0, 9, 1), i);
        }
        b.due("there are 60", y.grant(0, 1, 0, 11, 11, 0, 9, 1), NONE);
        b.refused(RightsBounds::sixtyGrants, "there are sixty", z -> z.grant(1, 2, 1, 11, 11, 0, 9, 1), NONE);
        b.due("sixty", sixtyGrants().about(5), 60);
        b.due("of a thing that fell", Towns.fallen().grant(0, 1, 0, 11, 11, 0, 9, 1), 1);
        b.due("of one who doesn't hold it", Towns.walled().grant(1, 2, 0, 11, 11, 0, 9, 1), 0);
        // Hours 2 .. 9 and months 3 .. 10, so that a and b, m and n can't be taken for one another.
        ShadeRegister w = Towns.walled();
        w.grant(0, 1, 0, 16 * 2 + 9, 16 * 3 + 10, 0, 3599, 0);
        int[][] days = {{89, 5, 0}, {90, 5, 1}, {329, 5, 1}, {330, 5, 0}, {90, 1, 0}, {90, 2, 1}, {90, 9, 1}, {90, 10, 0}};
        for (int[] one : days) {
            b.due("day " + one[0] + ", hour " + one[1], w.holder(0, one[0], one[1], 0), one[2]);
        }
    }

    private void grantRefused() {
        for (int person = 0; person < 3; person++) {
            int one = person;
            b.refused("giver and taker are " + one, x -> x.grant(one, one, 0, 11, 11, 0, 9, 0), NONE);
        }
        for (int person : new int[] {-1, 3, LEAST, MOST}) {
            b.refused("giver " + person, x -> x.grant(person, 1, 0, 11, 11, 0, 9, 0), NONE);
            b.refused("taker " + person, x -> x.grant(0, person, 0, 11, 11, 0, 9, 0), NONE);
        }
        for (int thing : new int[] {-1, 3, LEAST, MOST}) {
            b.refused("thing " + thing, x -> x.grant(0, 1, thing, 11, 11, 0, 9, 0), NONE);
        }
        for (int hours : new int[] {-1, 12, 16, 16 * 11 + 12, 16 * 12 + 12, LEAST, MOST}) {
            b.refused("hours " + hours, x -> x.grant(0, 1, 0, hours, 11, 0, 9, 0), NONE);
        }
        for (int months : new int[] {-1, 12, 16 * 11 + 12, 16 * 12, 16 * 12 + 11, LEAST, MOST}) {
            b.refused("months " + months, x -> x.grant(0, 1, 0, 11, months, 0, 9, 0), NONE);
        }
        int[][] spans = {{-1, 0}, {0, 3600}, {3600, 3600}, {-1, -1}, {1, 0}, {3599, 3598}, {3599, 0}, {LEAST, MOST}, {MOST, LEAST}};
        for (int[] span : spans) {
            for (int sort = 0; sort < 3; sort++) {
                int one = sort;
                b.refused("days " + span[0] + " to " + span[1] + ", sort " + sort,
                    x -> x.grant(0, 1, 0, 11, 11, span[0], span[1], one), NONE);
            }
        }
        for (int sort : new int[] {-1, 3, LEAST, MOST}) {
            b.refused("sort " + sort, x -> x.grant(0, 1, 0, 11, 11, 0, 9, sort), NONE);
        }
    }

    private void holder() {
        b.of("THE HOLDER. NONE for others, and if the THING doesn't STAND.");
        ShadeRegister x = Towns.rich();
        b.due("by the lease", x.holder(0, 10, 0, 10), 1);
        b.due("the lease not known", x.holder(0, 10, 0, 9), 0);
        b.due("on the lease's last day", x.holder(0, 99, 11, 10), 1);
        b.due("behind it", x.holder(0, 100, 11, 10), 0);
        b.due("on from", x.holder(1, 5, 0, 10), 1);
        b.due("ahead of from", x.holder(1, 4, 0, 10), NONE);
        b.due("known on from", x.holder(1, 10, 0, 5), 1);
        b.due("known ahead of from", x.holder(1, 10, 0, 4), NONE);
        b.due("ahead of its fall", Towns.fallen().holder(0, 8, 0, 10), 1);
        b.due("on the day of its fall", Towns.fallen().holder(0, 9, 0, 10), NONE);
        b.due("its fall not known", Towns.fallen().holder(0, 9, 0, 9), 0);
        b.due("in clouds", x.holder(0, 20, 3, 10), 1);
        for (int thing : new int[] {-1, 3, LEAST, MOST}) {
            b.refused("thing " + thing, y -> y.holder(thing, 10, 0, 10), NONE);
        }
        for (int hour : new int[] {-1, 12, LEAST, MOST}) {
            b.refused("hour " + hour, y -> y.holder(0, 10, hour, 10), NONE);
        }
        for (int day : new int[] {-1, 3600, LEAST, MOST}) {
            b.refused("day " + day, y -> y.holder(0, day, 0, 10), NONE);
            b.refused("known " + day, y -> y.holder(0, 10, 0, day), NONE);
        }
    }

    private void shaded() {
        b.of("THINGS by which a CELL is SHADED (a set of bits, 12 at most); 0 without, and if it isn't OPEN. NONE for others.");
        ShadeRegister x = Towns.flat(16, 12, 1);
        for (int i = 0; i < 24; i++) {
            x.wall(i < 13 ? i : 16 * (i - 12), 0, 15);
        }
        b.due("12 of 13", x.shaded(14, 0, 0, 0), 4095);
        b.due("12 of 12", x.shaded(12, 0, 0, 0), 0);
        b.due("one, the last thing", x.shaded(16 * 11 + 15, 0, 0, 0), 1 << 23);
        b.due("one, the 14th thing", x.shaded(17, 0, 0, 0), 1 << 13);
        b.due("without: another hour", x.shaded(14, 0, 1, 0), 0);
        b.due("not open, in no shade", x.shaded(0, 0, 0, 0), 0);
        b.due("not open, in shade", x.shaded(5, 0, 0, 0), 0);
        x.fell(12, 0);
        b.due("12 where one fell", x.shaded(12, 0, 0, 0), 4095);
        b.due("12 of 12 things", x.shaded(14, 0, 0, 0), 4095);
        x.fell(0, 0);
        b.due("11", x.shaded(14, 0, 0, 0), 4094);
        b.due("the first cell in no shade", x.shaded(0, 0, 0, 0), 0);
        for (int cell : new int[] {-1, 60, LEAST, MOST}) {
            b.refused("cell " + cell, y -> y.shaded(cell, 10, 0, 10), NONE);
        }
        for (int hour : new int[] {-1, 12, LEAST, MOST}) {
            b.refused("hour " + hour, y -> y.shaded(1, 10, hour, 10), NONE);
        }
        for (int day : new int[] {-1, 3600, LEAST, MOST}) {
            b.refused("day " + day, y -> y.shaded(1, day, 0, 10), NONE);
            b.refused("known " + day, y -> y.shaded(1, 10, 0, day), NONE);
        }
    }

    private void parts() {
        b.of("PARTS of a PERSON in a CELL, DAY, HOUR. NONE for others.");
        ShadeRegister x = Towns.flat(16, 4, 3);
        for (int i = 0; i < 12; i++) {
            x.wall(i, i % 3 == 0 ? 0 : 1, 15);
        }
        b.due("four twelfths", x.parts(0, 13, 0, 0, 0), 4 * 2310);
        b.due("eight twelfths", x.parts(1, 13, 0, 0, 0), 8 * 2310);
        b.due("none", x.parts(2, 13, 0, 0, 0), 0);
        b.due("none on a cell that isn't open", x.parts(0, 5, 0, 0, 0), 0);
        b.due("none in another hour", x.parts(0, 13, 0, 1, 0), 0);
        b.due("all", Towns.walled().parts(0, 1, 0, 0, 0), 27720);
        x.grant(1, 2, 1, 0, 11, 0, 3, 1);
        b.due("by a lease", x.parts(2, 13, 3, 0, 0), 2310);
        b.due("what is left", x.parts(1, 13, 3, 0, 0), 7 * 2310);
        b.due("behind the lease", x.parts(2, 13, 4, 0, 0), 0);
        x.days(2);
        x.grant(0, 2, 0, 11, 11, 0, 0, 0);
        b.due("a sale, as known", x.parts(2, 13, 5, 0, 2), 2310);
        b.due("a sale, not known", x.parts(2, 13, 5, 0, 1), 0);
        x.raise(3, 1, 1);
        b.due("a height, as known", x.parts(1, 13, 5, 0, 2), 8 * 2520);
        b.due("a height, not known", x.parts(1, 13, 5, 0, 1), 8 * 2310);
        for (int person : new int[] {-1, 3, LEAST, MOST}) {
            b.refused("person " + person, y -> y.parts(person, 1, 10, 0, 10), NONE);
        }
        for (int cell : new int[] {-1, 60, LEAST, MOST}) {
            b.refused("cell " + cell, y -> y.parts(0, cell, 10, 0, 10), NONE);
        }
        for (int hour : new int[] {-1, 12, LEAST, MOST}) {
            b.refused("hour " + hour, y -> y.parts(0, 1, 10, hour, 10), NONE);
        }
        for (int day : new int[] {-1, 3600, LEAST, MOST}) {
            b.refused("day " + day, y -> y.parts(0, 1, day, 0, 10), NONE);
            b.refused("known " + day, y -> y.parts(0, 1, 10, 0, day), NONE);
        }
    }

    private void shadow() {
        b.of("How many CELLS THE SHADOW of a THING has (OPEN ones alone). NONE for others.");
        ShadeRegister x = Towns.flat();
        x.days(2);
        x.wall(0, 0, 60);
        b.due("up to the edge", x.shadow(0, 2, 0, 2), 9);
        x.wall(9, 0, 0);
        b.due("one isn't open", x.shadow(0, 2, 0, 2), 8);
        x.wall(1, 0, 0);
        b.due("two aren't open", x.shadow(0, 2, 0, 2), 7);
        b.due("of height 0", x.shadow(1, 2, 0, 2), 0);
        b.due("without a height", x.shadow(0, 1, 0, 2), 0);
        b.due("without a height that is known", x.shadow(0, 2, 0, 1), 0);
        b.due("in an hour without", x.shadow(0, 2, 1, 2), 0);
        x.fell(2, 2);
        b.due("open again", x.shadow(0, 2, 0, 2), 8);
        b.due("of one that fell", x.shadow(2, 2, 0, 2), 0);
        // Of a cell's things the first twelve have parts, but each one's shadow has the cell.
        ShadeRegister y = Towns.flat(16, 4, 1);
        for (int i = 0; i < 14; i++) {
            y.wall(i, 0, 15);
        }
        b.due("of the 13th", y.shadow(12, 0, 0, 0), 2);
        b.due("of the 14th", y.shadow(13, 0, 0, 0), 2);
        for (int thing : new int[] {-1, 3, LEAST, MOST}) {
            b.refused("thing " + thing, z -> z.shadow(thing, 10, 0, 10), NONE);
        }
        for (int hour : new int[] {-1, 12, LEAST, MOST}) {
            b.refused("hour " + hour, z -> z.shadow(0, 10, hour, 10), NONE);
        }
        for (int day : new int[] {-1, 3600, LEAST, MOST}) {
            b.refused("day " + day, z -> z.shadow(0, day, 0, 10), NONE);
            b.refused("known " + day, z -> z.shadow(0, 10, 0, day), NONE);
        }
    }

    private void account() {
        b.of("ACCOUNT. NONE for others (to not below from, 59 DAYS beyond it at most).");
        ShadeRegister x = Towns.walled();
        long day = 3 * 27720;
        b.due("one day", x.account(0, 7, 7, 0), day);
        b.due("58 days beyond it", x.account(0, 7, 65, 0), 59 * day);
        b.due("59 days beyond it", x.account(0, 7, 66, 0), 60 * day);
        b.due("the first sixty", x.account(0, 0, 59, 0), 60 * day);
        b.due("the last sixty", x.account(0, 3540, 3599, 0), 60 * day);
        b.due("over the year's end", x.account(0, 330, 389, 0), 60 * day);
        b.due("of one without", x.account(1, 0, 59, 0), 0);
        ShadeRegister sold = Towns.walled();
        sold.days(4);
        sold.grant(0, 1, 0, 11, 11, 2, 2, 0);
        b.due("a sale, as known", sold.account(1, 0, 3, 4), 2 * day);
        b.due("a sale, not known", sold.account(1, 0, 3, 3), 0);
        b.due("what is left, as known", sold.account(0, 0, 3, 4), 2 * day);
        b.due("all, as known ahead", sold.account(0, 0, 3, 3), 4 * day);
        int[][] spans = {{7, 6}, {7, 67}, {0, 60}, {3539, 3599}, {-1, 0}, {-1, -1}, {3599, 3600}, {3600, 3600}, {3599, 0},
            {0, 3599}, {LEAST, MOST}, {MOST, LEAST}, {0, LEAST}, {0, MOST}, {LEAST, 0}, {MOST, 0}};
        for (int[] span : spans) {
            b.refused("days " + span[0] + " to " + span[1], y -> y.account(0, span[0], span[1], 10), NONE);
        }
        for (int person : new int[] {-1, 3, LEAST, MOST}) {
            b.refused("person " + person, y -> y.account(person, 10, 10, 10), NONE);
        }
        for (int known : new int[] {-1, 3600, LEAST, MOST}) {
            b.refused("known " + known, y -> y.account(0, 10, 10, known), NONE);
        }
    }

    private void bill() {
        b.of("BILL: what a PERSON has more. 0 for others (day FROM .. 3269), and if it doesn't STAND on that DAY.");
        long year = 360L * 27720;
        ShadeRegister x = Towns.flat();
        x.days(5);
        x.wall(0, 0, 2);
        b.due("ahead of from", x.bill(0, 3, 4, 0), 0);
        b.due("on from", x.bill(0, 3, 5, 0), year);
        b.due("on the last day for it", x.bill(0, 3, 3269, 0), year);
        b.due("on the day behind", x.bill(0, 3, 3270, 0), 0);
        b.due("on the last day of all", x.bill(0, 3, 3599, 0), 0);
        b.due("height 0", x.bill(0, 0, 5, 0), -2 * year);
        b.due("height 60", x.bill(0, 60, 5, 0), 7 * year);
        b.due("another person", x.bill(0, 60, 5, 1), 0);
        b.due("nothing is told", x.thing(0, 4), 1);
        x.days(10);
        b.due("a day that is over", x.bill(0, 3, 5, 0), year);
        x.fell(0, 15);
        b.due("the day ahead of its fall", x.bill(0, 3, 14, 0), 30L * 27720);
        b.due("the day of its fall", x.bill(0, 3, 15, 0), 0);
        b.due("behind its fall", x.bill(0, 3, 3269, 0), 0);
    }

    private void billRefused() {
        b.refused(Towns::rich, "asked about alone", x -> Math.min(0, x.bill(0, 9, 10, 0)), 0);
        for (int thing : new int[] {-1, 3, LEAST, MOST}) {
            b.refused("thing " + thing, x -> x.bill(thing, 9, 10, 0), 0);
        }
        for (int height : new int[] {-1, 61, LEAST, MOST}) {
            b.refused("height " + height, x -> x.bill(0, height, 10, 0), 0);
        }
        for (int day : new int[] {-1, 0, 4, 3270, 3599, 3600, LEAST, MOST}) {
            b.refused("day " + day, x -> x.bill(0, 9, day, 0), 0);
        }
        for (int person : new int[] {-1, 3, LEAST, MOST}) {
            b.refused("person " + person, x -> x.bill(0, 9, 10, person), 0);
        }
        b.refused(Towns::fallen, "it fell", x -> x.bill(0, 9, 9, 0), 0);
    }
}
