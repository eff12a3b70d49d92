import java.util.function.Supplier;

/** The bounds that part I of the document's terms names: days, hours, cells, the sun, persons, things, heights. */
final class FirstTermsBounds {
    private static final int NONE = ShadeRegister.NONE;
    private static final int LEAST = Integer.MIN_VALUE;
    private static final int MOST = Integer.MAX_VALUE;
    private static final int NO_FEES = -1000000000;

    private final Bounds b;

    private FirstTermsBounds(Bounds b) {
        this.b = b;
    }

    static void all(Bounds b) {
        FirstTermsBounds t = new FirstTermsBounds(b);
        t.calls();
        t.days();
        t.daysBeyond();
        t.daysOfSpansBeyond();
        t.months();
        t.hours();
        t.hoursBeyond();
        t.cells();
        t.sun();
        t.sunAtFirst();
        t.clouds();
        t.persons();
        t.personsBeyond();
        t.things();
        t.thingsBeyond();
        t.fromOfThings();
        t.growsAndLeans();
        t.entries();
        t.entriesBeyond();
        t.falls();
        t.noHeight();
        t.heightByEntries();
        t.heightOfTrees();
        t.firstEntry();
        t.standing();
    }

    private void calls() {
        b.of("An object is used for at most 512 calls after it has been made; what later calls answer is free.");
        ShadeRegister x = new ShadeRegister(4, 4);
        for (int call = 1; call <= 512; call++) {
            b.due("call " + call, x.days(1), call);
        }
        ShadeRegister y = Towns.walled();
        for (int call = 162; call < 512; call++) {
            y.shaded(1, 0, 0, 0);
        }
        b.due("shade in the last call", y.shaded(1, 0, 0, 0), 1);
    }

    private void days() {
        b.of("DAYS 0 .. 3599, the clock's at first 0;");
        b.due("the clock at first", new ShadeRegister(4, 4).about(0), 0);
        for (int day : new int[] {0, 3599}) {
            ShadeRegister x = Towns.walled();
            b.due("height on " + day, x.height(0, day, 0), 3);
            b.due("height known on " + day, x.height(0, 0, day), 3);
            b.due("holder on " + day, x.holder(0, day, 0, 0), 0);
            b.due("holder known on " + day, x.holder(0, 0, 0, day), 0);
            b.due("shaded on " + day, x.shaded(3, day, 0, 0), 1);
            b.due("shaded known on " + day, x.shaded(3, 0, 0, day), 1);
            b.due("parts on " + day, x.parts(0, 3, day, 0, 0), 27720);
            b.due("parts known on " + day, x.parts(0, 3, 0, 0, day), 27720);
            b.due("shadow on " + day, x.shadow(0, day, 0, 0), 3);
            b.due("shadow known on " + day, x.shadow(0, 0, 0, day), 3);
            b.due("account of " + day, x.account(0, day, day, 0), 3 * 27720);
            b.due("account known on " + day, x.account(0, 0, 0, day), 3 * 27720);
            b.due("grant from " + day, x.grant(0, 1, 0, 11, 11, day, 3599, 1), 0);
            b.due("grant to " + day, x.grant(0, 1, 0, 11, 11, 0, day, 1), 1);
            b.due("stall from " + day, x.stall(0, day, 3599), 1);
            b.due("stall to " + day, x.stall(0, 0, day), 2);
            b.due("fees on " + day, x.fees(0, day, NONE), 0);
            b.due("walk on " + day, x.walk(day, 0, 50, 0, 50), 1);
            b.due("best on " + day, x.best(day, 1), 1);
            b.due("serves on " + day, x.serves(day, 1), 0);
            b.due("cloud on " + day, x.cloud(day, 0), 1);
            b.due("raise from " + day, x.raise(0, day, 9), 2);
            b.due("raised", x.height(0, day, 0), 9);
        }
        ShadeRegister x = Towns.walled();
        x.wall(1, 1, 1);
        for (int i = 0; i < 8; i++) {
            x.days(400);
        }
        x.days(399);
        b.due("died on the first day", x.died(0, 0), true);
        b.due("died on the last day", x.died(1, 3599), true);
        b.due("fell on the first day", x.fell(0, 0), true);
        b.due("fell on the last day", x.fell(1, 3599), true);
    }

    private void daysBeyond() {
        for (int day : new int[] {-1, 3600, LEAST, MOST}) {
            b.refused("cloud on " + day, x -> x.cloud(day, 0), NONE);
            b.refused("died on " + day, x -> Bounds.bit(x.died(0, day)), 0);
            b.refused("raise from " + day, x -> x.raise(0, day, 3), NONE);
            b.refused("fell on " + day, x -> Bounds.bit(x.fell(0, day)), 0);
            b.refused("height on " + day, x -> x.height(0, day, 10), NONE);
            b.refused("height known on " + day, x -> x.height(0, 10, day), NONE);
            b.refused("holder on " + day, x -> x.holder(0, day, 0, 10), NONE);
            b.refused("holder known on " + day, x -> x.holder(0, 10, 0, day), NONE);
            b.refused("shaded on " + day, x -> x.shaded(1, day, 0, 10), NONE);
            b.refused("shaded known on " + day, x -> x.shaded(1, 10, 0, day), NONE);
            b.refused("parts on " + day, x -> x.parts(0, 1, day, 0, 10), NONE);
            b.refused("parts known on " + day, x -> x.parts(0, 1, 10, 0, day), NONE);
            b.refused("shadow on " + day, x -> x.shadow(0, day, 0, 10), NONE);
            b.refused("shadow known on " + day, x -> x.shadow(0, 10, 0, day), NONE);
            b.refused("bill from " + day, x -> x.bill(0, 9, day, 0), 0);
            b.refused("fees on " + day, x -> x.fees(0, day, NONE), NO_FEES);
            b.refused("walk on " + day, x -> x.walk(day, 0, 50, 0, 50), NONE);
            b.refused("best on " + day, x -> x.best(day, 1), NONE);
            b.refused("serves on " + day, x -> x.serves(day, 1), NONE);
        }
    }

    private void daysOfSpansBeyond() {
        for (int day : new int[] {-1, LEAST}) {
            b.refused("account from " + day, x -> x.account(0, day, 0, 10), NONE);
            b.refused("grant from " + day, x -> x.grant(0, 1, 0, 11, 11, day, 3599, 1), NONE);
            b.refused("grant on " + day, x -> x.grant(0, 1, 0, 11, 11, day, day, 1), NONE);
            b.refused("stall from " + day, x -> x.stall(0, day, 3599), NONE);
            b.refused("stall on " + day, x -> x.stall(0, day, day), NONE);
        }
        for (int day : new int[] {3600, MOST}) {
            b.refused("account to " + day, x -> x.account(0, 3599, day, 10), NONE);
            b.refused("account on " + day, x -> x.account(0, day, day, 10), NONE);
            b.refused("grant to " + day, x -> x.grant(0, 1, 0, 11, 11, 0, day, 1), NONE);
            b.refused("grant on " + day, x -> x.grant(0, 1, 0, 11, 11, day, day, 1), NONE);
            b.refused("stall to " + day, x -> x.stall(0, 0, day), NONE);
            b.refused("stall on " + day, x -> x.stall(0, day, day), NONE);
        }
        for (int day : new int[] {-1, 3600, LEAST, MOST}) {
            b.refused("account known on " + day, x -> x.account(0, 10, 10, day), NONE);
        }
    }

    /** By what a grant of one month does, by a month's sun and by the tariff's month. */
    private void months() {
        b.of("MONTH of a DAY: DAY % 360 / 30 (0 .. 11).");
        int[][] daysAndMonths = {{0, 0}, {29, 0}, {30, 1}, {59, 1}, {60, 2}, {179, 5}, {180, 6}, {329, 10}, {330, 11},
            {359, 11}, {360, 0}, {389, 0}, {390, 1}, {719, 11}, {720, 0}, {3569, 10}, {3570, 11}, {3599, 11}};
        for (int month = 0; month < 12; month++) {
            ShadeRegister sold = Towns.walled();
            sold.grant(0, 1, 0, 11, 16 * month + month, 0, 0, 0);
            ShadeRegister sunny = Towns.still(10, 6);
            sunny.sun(month, 0, 100, 0);
            sunny.person();
            sunny.wall(0, 0, 3);
            ShadeRegister priced = Towns.walled();
            priced.place(0, 0, 1);
            Towns.read(priced, "give month;");
            for (int[] pair : daysAndMonths) {
                int day = pair[0];
                String what = " in month " + month + " on " + day;
                b.due("holder" + what, sold.holder(0, day, 0, 0), pair[1] == month ? 1 : 0);
                b.due("shade" + what, sunny.shaded(1, day, 0, 0), pair[1] == month ? 1 : 0);
                b.due("fees on " + day, priced.fees(0, day, NONE), pair[1]);
            }
        }
    }

    private void hours() {
        b.of("HOURS 0 .. 11.");
        for (int hour : new int[] {0, 11}) {
            ShadeRegister x = Towns.walled();
            b.due("sun of " + hour, x.sun(0, hour, 100, 0), true);
            b.due("holder in " + hour, x.holder(0, 0, hour, 0), 0);
            b.due("shaded in " + hour, x.shaded(3, 0, hour, 0), 1);
            b.due("parts in " + hour, x.parts(0, 3, 0, hour, 0), 27720);
            b.due("shadow in " + hour, x.shadow(0, 0, hour, 0), 3);
            b.due("measure in " + hour, x.measure(0, hour, 3), 3);
            b.due("place in " + hour, x.place(0, hour, 40), true);
            b.due("placeOf in " + hour, x.placeOf(0, hour), 40);
            b.due("walk from " + hour, x.walk(0, hour, 50, 11, 50), 12 - hour);
            b.due("walk to " + hour, x.walk(0, 0, 50, hour, 50), 1 + hour);
            b.due("grant of " + hour, x.grant(0, 1, 0, 17 * hour, 11, 0, 0, 1), 0);
            b.due("its holder", x.holder(0, 0, hour, 0), 1);
            b.due("cloud in " + hour, x.cloud(0, hour), 1);
        }
    }

    private void hoursBeyond() {
        for (int hour : new int[] {-1, 12, LEAST, MOST}) {
            b.refused("sun of " + hour, x -> Bounds.bit(x.sun(0, hour, 7, 7)), 0);
            b.refused("cloud in " + hour, x -> x.cloud(10, hour), NONE);
            b.refused("measure in " + hour, x -> x.measure(1, hour, 12), NONE);
            b.refused("holder in " + hour, x -> x.holder(0, 10, hour, 10), NONE);
            b.refused("shaded in " + hour, x -> x.shaded(1, 10, hour, 10), NONE);
            b.refused("parts in " + hour, x -> x.parts(0, 1, 10, hour, 10), NONE);
            b.refused("shadow in " + hour, x -> x.shadow(0, 10, hour, 10), NONE);
            b.refused("place in " + hour, x -> Bounds.bit(x.place(0, hour, 40)), 0);
            b.refused("no place in " + hour, x -> Bounds.bit(x.place(0, hour, NONE)), 0);
            b.refused("placeOf in " + hour, x -> x.placeOf(0, hour), NONE);
            b.refused("walk from " + hour, x -> x.walk(10, hour, 50, 11, 50), NONE);
            b.refused("walk to " + hour, x -> x.walk(10, 0, 50, hour, 50), NONE);
            b.refused("walk in " + hour, x -> x.walk(10, hour, 50, hour, 50), NONE);
        }
    }

    private void cells() {
        b.of("The GROUND: WIDE by HIGH; CELL y WIDE + x.");
        for (int[] size : new int[][] {{4, 4}, {16, 12}, {10, 6}}) {
            int last = size[0] * size[1] - 1;
            for (int cell : new int[] {0, last}) {
                ShadeRegister x = Towns.flat(size[0], size[1], 1);
                b.due("shaded " + cell, x.shaded(cell, 0, 0, 0), 0);
                b.due("parts of " + cell, x.parts(0, cell, 0, 0, 0), 0);
                b.due("walk on " + cell, x.walk(0, 0, cell, 0, cell), 1);
                x.stall(0, 0, 0);
                b.due("place on " + cell, x.place(0, 0, cell), true);
                x.place(0, 0, NONE);
                b.due("wall on " + cell, x.wall(cell, 0, 1), 0);
                b.due("measure to " + cell, x.measure(0, 1, cell), 1);
                x.fell(0, 0);
                b.due("tree on " + cell, x.tree(cell, 0, 1, 1), 1);
                x.fell(1, 0);
                b.due("pole on " + cell, x.pole(cell, 0, 1, 0, 0), 2);
            }
            ShadeRegister y = Towns.flat(size[0], size[1], 1);
            y.sun(0, 1, 0, 100);
            y.wall(0, 0, 60);
            b.due("x beside the first cell", y.shaded(1, 0, 0, 0), 1);
            b.due("x of the row's last cell", y.shaded(size[0] - 1, 0, 0, 0), 1);
            b.due("not around into the next row", y.shaded(size[0], 0, 0, 0), 0);
            b.due("y below the first cell", y.shaded(size[0], 0, 1, 0), 1);
            b.due("y of the last row", y.shaded(last + 1 - size[0], 0, 1, 0), 1);
        }
        for (int cell : new int[] {-2, 60, LEAST, MOST}) {
            b.refused("no place " + cell, x -> Bounds.bit(x.place(0, 0, cell)), 0);
        }
        for (int cell : new int[] {-1, 60, LEAST, MOST}) {
            b.refused("wall on " + cell, x -> x.wall(cell, 0, 1), NONE);
            b.refused("tree on " + cell, x -> x.tree(cell, 0, 1, 1), NONE);
            b.refused("pole on " + cell, x -> x.pole(cell, 0, 1, 0, 0), NONE);
            b.refused("measure to " + cell, x -> x.measure(1, 0, cell), NONE);
            b.refused("shaded " + cell, x -> x.shaded(cell, 10, 0, 10), NONE);
            b.refused("parts of " + cell, x -> x.parts(0, cell, 10, 0, 10), NONE);
            b.refused("walk from " + cell, x -> x.walk(10, 0, cell, 11, 59), NONE);
            b.refused("walk to " + cell, x -> x.walk(10, 0, 59, 11, cell), NONE);
        }
    }

    private void sun() {
        b.of("SUN of a MONTH and an HOUR: (UX, UY), each -300 .. 300, in hundredths of a CELL for one of height;");
        int[][] edges = {{300, 0, 3, 0}, {-300, 0, -3, 0}, {0, 300, 0, 3}, {0, -300, 0, -3}, {300, -300, 3, -3},
            {-300, 300, -3, 3}, {49, 49, 0, 0}, {50, 50, 1, 1}, {-50, -50, 0, 0}, {-51, -51, -1, -1}};
        for (int[] edge : edges) {
            ShadeRegister x = Towns.flat(9, 9, 1);
            x.wall(40, 0, 1);
            b.due("sun " + edge[0] + " " + edge[1], x.sun(11, 11, edge[0], edge[1]), true);
            int cell = 40 + edge[2] + 9 * edge[3];
            b.due("its shadow", x.shadow(0, 3599, 11, 0), cell == 40 ? 0 : 1);
            b.due("its cell", x.shaded(cell, 3599, 11, 0), cell == 40 ? 0 : 1);
        }
        for (int u : new int[] {-301, 301, LEAST, MOST}) {
            b.refused("sun's ux " + u, x -> Bounds.bit(x.sun(0, 0, u, 0)), 0);
            b.refused("sun's uy " + u, x -> Bounds.bit(x.sun(0, 0, 0, u)), 0);
        }
    }

    /** Each month and hour of a new object, every cell of the ground. */
    private void sunAtFirst() {
        b.of("at first UX = 20 (2 HOUR - 11), UY = 20 + 5 |MONTH - 6|.");
        int[] uys = {50, 45, 40, 35, 30, 25, 20, 25, 30, 35, 40, 45};
        int[] uxs = {-220, -180, -140, -100, -60, -20, 20, 60, 100, 140, 180, 220};
        for (int month = 0; month < 12; month++) {
            for (int hour = 0; hour < 12; hour++) {
                ShadeRegister x = new ShadeRegister(16, 12);
                x.person();
                x.wall(8, 0, 20);
                for (int cell = 0; cell < 192; cell++) {
                    int by = 0;
                    for (int j = 1; j <= 20; j++) {
                        boolean inColumn = Math.floorDiv(850 + j * uxs[hour], 100) == cell % 16;
                        boolean inRow = Math.floorDiv(50 + j * uys[month], 100) == cell / 16;
                        by = inColumn && inRow && cell != 8 ? 1 : by;
                    }
                    b.due("month " + month + ", hour " + hour + ", cell " + cell,
                        x.shaded(cell, 30 * month, hour, 0), by);
                }
            }
        }
    }

    private void clouds() {
        b.of("CLOUDS: a DAY's HOUR in which there is no shade (60 at most).");
        ShadeRegister x = Towns.flat();
        for (int hour = 0; hour < 12; hour++) {
            x.sun(0, hour, 100, 0);
        }
        x.wall(0, 0, 1);
        x.cloud(5, 6);
        b.due("in it", x.shaded(1, 5, 6, 0), 0);
        b.due("its shadow", x.shadow(0, 5, 6, 0), 0);
        b.due("an hour ahead", x.shaded(1, 5, 5, 0), 1);
        b.due("an hour behind", x.shaded(1, 5, 7, 0), 1);
        b.due("a day ahead", x.shaded(1, 4, 6, 0), 1);
        b.due("a day behind", x.shaded(1, 6, 6, 0), 1);
        x.cloud(7, 11);
        b.due("hour 0 of the next day", x.shaded(1, 8, 0, 0), 1);
        for (int i = 3; i <= 59; i++) {
            x.cloud(9 + i, 6);
        }
        b.due("the 60th", x.cloud(9, 6), 60);
        b.due("in the 60th", x.shaded(1, 9, 6, 0), 0);
        b.due("the 61st", x.cloud(8, 6), NONE);
        b.due("in none", x.shaded(1, 8, 6, 0), 1);
        b.due("in the first still", x.shaded(1, 5, 6, 0), 0);
    }

    private static ShadeRegister crowded() {
        ShadeRegister x = Towns.flat(10, 6, 16);
        x.wall(0, 15, 3);
        x.stall(0, 0, 3599);
        return x;
    }

    private void persons() {
        b.of("PERSONS 0 .. 15.");
        ShadeRegister x = Towns.flat(10, 6, 0);
        for (int i = 0; i < 16; i++) {
            b.due("person " + i, x.person(), i);
        }
        b.due("a 17th", x.person(), NONE);
        for (int person : new int[] {0, 15}) {
            ShadeRegister y = crowded();
            int other = 15 - person;
            b.due("owner of a wall " + person, y.wall(10, person, 1), 1);
            b.due("owner of a tree " + person, y.tree(20, person, 1, 1), 2);
            b.due("owner of a pole " + person, y.pole(30, person, 1, 0, 0), 3);
            b.due("is told", y.thing(3, 2), person);
            b.due("holds", y.holder(3, 0, 0, 0), person);
            b.due("parts of " + person, y.parts(person, 1, 0, 0, 0), person == 15 ? 27720 : 0);
            b.due("account of " + person, y.account(person, 0, 0, 0), (person == 15 ? 6 : 3) * 27720L);
            b.due("bill of " + person, y.bill(1, 2, 0, person), 360L * 27720);
            b.due("bill of another", y.bill(1, 2, 0, other), 0);
            b.due("giver " + person, y.grant(person, other, 1, 11, 11, 0, 0, 1), 0);
            b.due("taker " + person, y.grant(other, person, 1, 11, 11, 0, 0, 1), 1);
            b.due("stall of " + person, y.stall(person, 0, 0), 1);
            b.due("fees to " + person, y.fees(0, 0, person), 0);
            b.due("died " + person, y.died(person, 0), true);
        }
    }

    private void personsBeyond() {
        for (int person : new int[] {-1, 16, LEAST, MOST}) {
            refusedPersons("of sixteen, person " + person, FirstTermsBounds::crowded, person);
        }
        refusedPersons("of three, person 3", Towns::rich, 3);
    }

    private void refusedPersons(String what, Supplier<ShadeRegister> town, int person) {
        b.refused(town, "wall: " + what, x -> x.wall(50, person, 1), NONE);
        b.refused(town, "tree: " + what, x -> x.tree(50, person, 1, 1), NONE);
        b.refused(town, "pole: " + what, x -> x.pole(50, person, 1, 0, 0), NONE);
        b.refused(town, "parts: " + what, x -> x.parts(person, 1, 0, 0, 0), NONE);
        b.refused(town, "account: " + what, x -> x.account(person, 0, 0, 0), NONE);
        b.refused(town, "bill: " + what, x -> x.bill(0, 9, 10, person), 0);
        b.refused(town, "giver: " + what, x -> x.grant(person, 0, 0, 11, 11, 0, 0, 1), NONE);
        b.refused(town, "taker: " + what, x -> x.grant(0, person, 0, 11, 11, 0, 0, 1), NONE);
        b.refused(town, "stall: " + what, x -> x.stall(person, 0, 0), NONE);
        b.refused(town, "died: " + what, x -> Bounds.bit(x.died(person, 0)), 0);
        if (person != NONE) {
            b.refused(town, "fees: " + what, x -> x.fees(0, 10, person), NO_FEES);
        }
    }

    /** 24 walls, each of height 2, on every other cell of a ground that has room for their shade. */
    private static ShadeRegister builtUp() {
        ShadeRegister x = Towns.flat(16, 12, 2);
        for (int i = 0; i < 24; i++) {
            x.wall(8 * i, 0, 2);
        }
        return x;
    }

    private void things() {
        b.of("THINGS 0 .. 23: a KIND (0 WALL, 1 TREE, 2 POLE), a CELL, an OWNER,");
        ShadeRegister x = Towns.flat(16, 12, 2);
        for (int i = 0; i < 24; i++) {
            b.due("thing " + i, i % 3 == 0 ? x.wall(8 * i, 1, 2) : i % 3 == 1 ? x.tree(8 * i, 1, 2, 5)
                : x.pole(8 * i, 1, 2, 0, 0), i);
            b.due("its kind", x.thing(i, 0), i % 3);
            b.due("its cell", x.thing(i, 1), 8 * i);
            b.due("its owner", x.thing(i, 2), 1);
        }
        for (int thing : new int[] {0, 23}) {
            ShadeRegister y = builtUp();
            b.due("height of " + thing, y.height(thing, 0, 0), 2);
            b.due("entry of " + thing, y.entry(thing, 0, 1), 2);
            b.due("holder of " + thing, y.holder(thing, 0, 0, 0), 0);
            b.due("shadow of " + thing, y.shadow(thing, 0, 0, 0), 2);
            b.due("shaded by " + thing, y.shaded(8 * thing + 1, 0, 0, 0), 1 << thing);
            b.due("bill of " + thing, y.bill(thing, 3, 0, 0), 360L * 27720);
            b.due("grant of " + thing, y.grant(0, 1, thing, 11, 11, 0, 0, 1), 0);
            b.due("its holder then", y.holder(thing, 0, 0, 0), 1);
            b.due("measure of " + thing, y.measure(thing, 0, 8 * thing + 1), 1);
            b.due("raise of " + thing, y.raise(thing, 0, 3), 3);
            b.due("fell " + thing, y.fell(thing, 0), true);
        }
    }

    private void thingsBeyond() {
        for (int thing : new int[] {-1, 24, LEAST, MOST}) {
            refusedThings("of 24, thing " + thing, FirstTermsBounds::builtUp, thing);
        }
        refusedThings("of three, thing 3", Towns::rich, 3);
        b.refused(FirstTermsBounds::builtUp, "a 25th wall", x -> x.wall(1, 0, 2), NONE);
        b.refused(FirstTermsBounds::builtUp, "a 25th thing, a tree", x -> x.tree(1, 0, 2, 5), NONE);
        b.refused(FirstTermsBounds::builtUp, "a 25th thing, a pole", x -> x.pole(1, 0, 2, 0, 0), NONE);
    }

    private void refusedThings(String what, Supplier<ShadeRegister> town, int thing) {
        b.refused(town, "raise: " + what, x -> x.raise(thing, 10, 3), NONE);
        b.refused(town, "fell: " + what, x -> Bounds.bit(x.fell(thing, 0)), 0);
        b.refused(town, "height: " + what, x -> x.height(thing, 10, 10), NONE);
        b.refused(town, "measure: " + what, x -> x.measure(thing, 0, 1), NONE);
        b.refused(town, "thing: " + what, x -> x.thing(thing, 0), NONE);
        b.refused(town, "entry: " + what, x -> x.entry(thing, 0, 0), NONE);
        b.refused(town, "grant: " + what, x -> x.grant(0, 1, thing, 11, 11, 0, 0, 1), NONE);
        b.refused(town, "holder: " + what, x -> x.holder(thing, 10, 0, 10), NONE);
        b.refused(town, "shadow: " + what, x -> x.shadow(thing, 10, 0, 10), NONE);
        b.refused(town, "bill: " + what, x -> x.bill(thing, 9, 10, 0), 0);
    }

    private void fromOfThings() {
        b.of("a FROM (the clock's DAY when it was told).");
        ShadeRegister x = Towns.flat();
        x.wall(0, 0, 1);
        for (int i = 0; i < 8; i++) {
            x.days(400);
        }
        x.days(399);
        x.tree(1, 0, 1, 1);
        x.pole(2, 0, 1, 0, 0);
        b.due("told on the first day", x.thing(0, 3), 0);
        b.due("told on the last day", x.thing(1, 3), 3599);
        b.due("told on the last day too", x.thing(2, 3), 3599);
    }

    private void growsAndLeans() {
        b.of("A TREE has GROWS (1 .. 999 DAYS for one more), a POLE a LEAN (LX, LY, each -50 .. 50); "
            + "of others the LEAN is (0, 0).");
        ShadeRegister x = Towns.flat(9, 9, 1);
        b.due("grows 1", x.tree(0, 0, 1, 1), 0);
        b.due("grows 999", x.tree(1, 0, 1, 999), 1);
        b.due("one more each day", x.height(0, 1, 0), 2);
        b.due("none more in 998 days", x.height(1, 998, 0), 1);
        b.due("one more in 999 days", x.height(1, 999, 0), 2);
        b.due("lean (50, -50)", x.pole(40, 0, 2, 50, -50), 2);
        b.due("its shade with 1", x.shaded(41, 0, 1, 0), 4);
        b.due("its shade with 2", x.shaded(41 - 9, 0, 1, 0), 4);
        b.due("lean (-50, 50)", x.pole(60, 0, 2, -50, 50), 3);
        b.due("its shade with 1, too", x.shaded(60 + 9, 0, 1, 0), 8);
        b.due("its shade with 2, too", x.shaded(59 + 9, 0, 1, 0), 8);
        b.due("no lean: wall", x.wall(8, 0, 60), 4);
        b.due("no lean: wall's shade", x.shadow(4, 0, 1, 0), 0);
        b.due("no lean: tree's shade", x.shadow(1, 0, 1, 0), 0);
        ShadeRegister y = Towns.flat(9, 9, 1);
        y.sun(0, 2, 300, -300);
        y.pole(54, 0, 1, 50, -50);
        b.due("the greatest sun and lean", y.shaded(54 + 4 - 3 * 9, 0, 2, 0), 1);
        for (int grows : new int[] {0, 1000, -1, LEAST, MOST}) {
            b.refused("grows " + grows, z -> z.tree(50, 0, 1, grows), NONE);
        }
        for (int lean : new int[] {-51, 51, LEAST, MOST}) {
            b.refused("lx " + lean, z -> z.pole(50, 0, 1, lean, 0), NONE);
            b.refused("ly " + lean, z -> z.pole(50, 0, 1, 0, lean), NONE);
        }
    }

    private void entries() {
        b.of("ENTRIES of a THING (40 at most): a DAY from which it holds (not ahead of FROM), a HEIGHT (0 .. 60), "
            + "the DAY on which it was TOLD; the first one as the THING comes.");
        ShadeRegister x = Towns.flat();
        x.days(7);
        x.wall(0, 0, 5);
        b.due("the first one's day", x.entry(0, 0, 0), 7);
        b.due("the first one's height", x.entry(0, 0, 1), 5);
        b.due("the first one was told", x.entry(0, 0, 2), 7);
        b.due("there is one", x.thing(0, 4), 1);
        x.days(2);
        b.due("ahead of from", x.raise(0, 6, 5), NONE);
        b.due("on from, of height 0", x.raise(0, 7, 0), 2);
        b.due("of height 60", x.raise(0, 8, 60), 3);
        b.due("its day", x.entry(0, 2, 0), 8);
        b.due("its height", x.entry(0, 2, 1), 60);
        b.due("it was told", x.entry(0, 2, 2), 9);
        for (int i = 4; i <= 40; i++) {
            b.due("entry " + i, x.raise(0, 8, i), i);
        }
        b.due("the 41st", x.raise(0, 8, 41), NONE);
        b.due("forty", x.thing(0, 4), 40);
        b.due("the 40th", x.entry(0, 39, 1), 40);
        b.due("height by the 40th", x.height(0, 8, 9), 40);
    }

    private void entriesBeyond() {
        for (int height : new int[] {-1, 61, LEAST, MOST}) {
            b.refused("raise to " + height, x -> x.raise(0, 10, height), NONE);
            b.refused("wall of " + height, x -> x.wall(50, 0, height), NONE);
            b.refused("tree of " + height, x -> x.tree(50, 0, height, 1), NONE);
            b.refused("pole of " + height, x -> x.pole(50, 0, height, 0, 0), NONE);
            b.refused("bill of " + height, x -> x.bill(0, height, 10, 0), 0);
        }
        for (int height : new int[] {0, 60}) {
            ShadeRegister x = Towns.flat();
            b.due("wall of " + height, x.wall(0, 0, height), 0);
            b.due("tree of " + height, x.tree(10, 0, height, 1), 1);
            b.due("pole of " + height, x.pole(20, 0, height, 0, 0), 2);
            for (int i = 0; i < 3; i++) {
                b.due("height of " + i, x.height(i, 0, 0), height);
                b.due("shadow of " + i, x.shadow(i, 0, 0, 0), height == 0 ? 0 : 9);
            }
            b.due("bill of " + height, x.bill(0, height == 0 ? 60 : 0, 0, 0), (height == 0 ? 1 : -1) * 360L * 9 * 27720);
        }
    }

    private void falls() {
        b.of("FELL: a DAY from which a THING stands no more, and the DAY on which that was TOLD.");
        ShadeRegister x = Towns.flat();
        x.wall(0, 0, 3);
        x.days(20);
        x.fell(0, 15);
        b.due("a day ahead of it", x.shaded(1, 14, 0, 20), 1);
        b.due("on it", x.shaded(1, 15, 0, 20), 0);
        b.due("behind it", x.shaded(1, 3599, 0, 20), 0);
        b.due("on it, known a day ahead of telling", x.shaded(1, 15, 0, 19), 1);
        b.due("its cell is open", x.walk(15, 0, 0, 0, 0), 1);
        b.due("its cell isn't open ahead", x.walk(14, 0, 0, 0, 0), NONE);
        b.due("none stands", x.about(10), 0);
    }

    private void noHeight() {
        b.of("HEIGHT of a THING on DAY d as KNOWN on DAY k: none, if FROM is above d, or above k, or it FELL on d or "
            + "ahead, TOLD on k or ahead.");
        ShadeRegister x = Towns.flat();
        x.days(10);
        x.wall(0, 0, 3);
        b.due("from above d", x.height(0, 9, 10), NONE);
        b.due("from on d", x.height(0, 10, 10), 3);
        b.due("from above k", x.height(0, 10, 9), NONE);
        b.due("from above both", x.height(0, 9, 9), NONE);
        b.due("from above k, a late day", x.height(0, 3599, 9), NONE);
        b.due("from above d, known late", x.height(0, 9, 3599), NONE);
        x.days(10);
        x.fell(0, 15);
        b.due("fell behind d", x.height(0, 14, 20), 3);
        b.due("fell on d", x.height(0, 15, 20), NONE);
        b.due("fell ahead of d", x.height(0, 16, 20), NONE);
        b.due("told behind k", x.height(0, 15, 19), 3);
        b.due("told behind k, a late day", x.height(0, 3599, 19), 3);
        b.due("told ahead of k", x.height(0, 15, 21), NONE);
        b.due("fell behind d, known late", x.height(0, 14, 3599), 3);
    }

    private void heightByEntries() {
        b.of("Else of ENTRIES TOLD on k or ahead, that hold from d or ahead, the one with the greatest DAY, of like "
            + "ones the latest: its HEIGHT,");
        ShadeRegister x = Towns.flat();
        x.days(5);
        x.wall(0, 0, 1);
        x.days(5);
        x.raise(0, 8, 2);
        b.due("told on k", x.height(0, 8, 10), 2);
        b.due("told behind k", x.height(0, 8, 9), 1);
        b.due("holds from d", x.height(0, 8, 3599), 2);
        b.due("holds from behind d", x.height(0, 7, 3599), 1);
        x.raise(0, 7, 3);
        b.due("the greatest day, not the latest", x.height(0, 8, 10), 2);
        b.due("the latest where it is greatest", x.height(0, 7, 10), 3);
        x.raise(0, 8, 4);
        b.due("of like ones the latest", x.height(0, 8, 10), 4);
        x.days(1);
        x.raise(0, 8, 5);
        b.due("of like ones the latest that is known", x.height(0, 8, 10), 4);
        b.due("of like ones the latest of all", x.height(0, 8, 11), 5);
        x.raise(0, 5, 6);
        b.due("like the first, on from", x.height(0, 5, 11), 6);
        b.due("like the first, a day ahead of known", x.height(0, 5, 10), 1);
        x.raise(0, 3599, 7);
        b.due("the last day", x.height(0, 3599, 11), 7);
        b.due("ahead of the last day", x.height(0, 3598, 11), 5);
    }

    private void heightOfTrees() {
        b.of("and for a TREE (d less its DAY) / GROWS more, 60 at most.");
        ShadeRegister x = Towns.flat();
        x.days(4);
        x.tree(0, 0, 57, 10);
        int[][] daysAndHeights = {{4, 57}, {13, 57}, {14, 58}, {23, 58}, {24, 59}, {33, 59}, {34, 60}, {44, 60}, {3599, 60}};
        for (int[] pair : daysAndHeights) {
            b.due("on day " + pair[0], x.height(0, pair[0], 4), pair[1]);
        }
        x.raise(0, 30, 60);
        b.due("60 and more", x.height(0, 40, 4), 60);
        x.raise(0, 50, 0);
        b.due("from its entry's day", x.height(0, 59, 4), 0);
        b.due("one more from there", x.height(0, 60, 4), 1);
        x.wall(10, 0, 57);
        x.pole(20, 0, 57, 0, 0);
        b.due("a wall has no more", x.height(1, 3599, 4), 57);
        b.due("a pole has no more", x.height(2, 3599, 4), 57);
    }

    private void firstEntry() {
        b.of("(There is one: the first.)");
        ShadeRegister x = Towns.flat();
        x.days(3);
        x.wall(0, 0, 2);
        x.raise(0, 4, 9);
        b.due("on from, known on from", x.height(0, 3, 3), 2);
        b.due("on from, known on the last day", x.height(0, 3, 3599), 2);
    }

    private void standing() {
        b.of("It STANDS, if it has a HEIGHT.");
        ShadeRegister x = Towns.flat();
        x.days(3);
        x.wall(0, 0, 0);
        b.due("of height 0", x.height(0, 3, 3), 0);
        b.due("it stands", x.about(10), 1);
        b.due("it has a holder", x.holder(0, 3, 0, 3), 0);
        b.due("its cell isn't open", x.walk(3, 0, 0, 0, 0), NONE);
        b.due("without a height", x.holder(0, 2, 0, 3), NONE);
        b.due("without a height its cell is open", x.walk(2, 0, 0, 0, 0), 1);
    }
}
