/** The bounds that promises 1 to 15 name. */
final class ThingsBounds {
    private static final int NONE = ShadeRegister.NONE;
    private static final int LEAST = Integer.MIN_VALUE;
    private static final int MOST = Integer.MAX_VALUE;

    private final Bounds b;

    private ThingsBounds(Bounds b) {
        this.b = b;
    }

    static void all(Bounds b) {
        ThingsBounds t = new ThingsBounds(b);
        t.newObject();
        t.days();
        t.sun();
        t.cloud();
        t.person();
        t.died();
        t.wall();
        t.wallAmongStalls();
        t.tree();
        t.pole();
        t.raise();
        t.fell();
        t.height();
        t.measure();
        t.measureRefused();
        t.thing();
        t.entry();
    }

    private void newObject() {
        b.of("A GROUND (WIDE 4 to 16, HIGH 4 to 12; others: the nearest of these); no PERSONS, THINGS; THE TARIFF without "
            + "RULES.");
        int[][] wides = {{LEAST, 4}, {-1, 4}, {0, 4}, {3, 4}, {4, 4}, {5, 5}, {15, 15}, {16, 16}, {17, 16}, {MOST, 16}};
        int[][] highs = {{LEAST, 4}, {-1, 4}, {0, 4}, {3, 4}, {4, 4}, {5, 5}, {11, 11}, {12, 12}, {13, 12}, {MOST, 12}};
        for (int[] wide : wides) {
            for (int[] high : highs) {
                ShadeRegister x = new ShadeRegister(wide[0], high[0]);
                String what = wide[0] + " by " + high[0];
                b.due(what + ": wide", x.about(1), wide[1]);
                b.due(what + ": high", x.about(2), high[1]);
                b.due(what + ": last cell", x.shaded(wide[1] * high[1] - 1, 0, 0, 0), 0);
                b.due(what + ": behind it", x.shaded(wide[1] * high[1], 0, 0, 0), NONE);
            }
        }
        ShadeRegister x = new ShadeRegister(8, 8);
        for (int what : new int[] {0, 3, 4, 5, 6, 7, 8, 9, 10}) {
            b.due("new: about " + what, x.about(what), 0);
        }
        ShadeRegister used = Towns.rich();
        ShadeRegister other = new ShadeRegister(8, 8);
        used.days(1);
        for (int what : new int[] {0, 3, 4, 5, 6, 7, 8, 9, 10}) {
            b.due("new, beside one that is used: about " + what, other.about(what), 0);
        }
        b.due("new: no person", x.account(0, 0, 0, 0), NONE);
        b.due("new: no thing", x.thing(0, 0), NONE);
        b.due("new: no stall", x.placeOf(0, 0), NONE);
        b.due("new: gives", x.gives(1, 2, 3, 4, 5, 6), 0);
        b.due("new: no walk", x.walked(NONE), NONE);
        b.due("new: no fault", x.fault(0), NONE);
        b.due("new: a walk", x.walk(0, 0, 0, 11, 0), 12);
        b.due("new: best", x.best(0, 1), 0);
        b.due("new: serves", x.serves(0, 1), 0);
    }

    private static ShadeRegister atTheEnd() {
        ShadeRegister x = Towns.rich();
        for (int i = 0; i < 8; i++) {
            x.days(400);
        }
        x.days(388);
        return x;
    }

    private void days() {
        b.of("n DAYS go by (1 .. 400): the clock. NONE for others, or beyond 3599.");
        ShadeRegister x = new ShadeRegister(4, 4);
        b.due("1", x.days(1), 1);
        b.due("400", x.days(400), 401);
        b.due("the clock", x.about(0), 401);
        for (int n : new int[] {0, -1, 401, LEAST, MOST}) {
            b.refused("days " + n, y -> y.days(n), NONE);
        }
        b.due("on day", atTheEnd().about(0), 3598);
        b.refused(ThingsBounds::atTheEnd, "beyond the last day by one", y -> y.days(2), NONE);
        b.refused(ThingsBounds::atTheEnd, "beyond the last day by far", y -> y.days(400), NONE);
        ShadeRegister z = atTheEnd();
        b.due("to the last day", z.days(1), 3599);
        b.due("on the last day", z.days(1), NONE);
        b.due("it stays", z.about(0), 3599);
    }

    private void sun() {
        b.of("SUN: true. False for others.");
        for (int[] edge : new int[][] {{0, 0, -300, -300}, {11, 11, 300, 300}, {0, 11, -300, 300}, {11, 0, 300, -300}}) {
            b.due("sun of month " + edge[0], Towns.rich().sun(edge[0], edge[1], edge[2], edge[3]), true);
        }
        for (int month : new int[] {-1, 12, LEAST, MOST}) {
            b.refused("month " + month, x -> Bounds.bit(x.sun(month, 0, 7, 7)), 0);
            b.refused("month " + month + ", hour 11", x -> Bounds.bit(x.sun(month, 11, 7, 7)), 0);
        }
        for (int hour : new int[] {-1, 12, LEAST, MOST}) {
            b.refused("hour " + hour, x -> Bounds.bit(x.sun(5, hour, 7, 7)), 0);
        }
        for (int u : new int[] {-301, 301, LEAST, MOST}) {
            b.refused("ux " + u, x -> Bounds.bit(x.sun(5, 5, u, 7)), 0);
            b.refused("uy " + u, x -> Bounds.bit(x.sun(5, 5, 7, u)), 0);
        }
        ShadeRegister x = Towns.walled();
        x.sun(3, 0, 0, 100);
        b.due("another month stays", x.shaded(1, 89, 0, 0), 1);
        b.due("its month", x.shaded(10, 90, 0, 0), 1);
        b.due("its month's last day", x.shaded(10, 119, 0, 0), 1);
        b.due("the month behind stays", x.shaded(1, 120, 0, 0), 1);
        b.due("its month in every year", x.shaded(10, 3330, 0, 0), 1);
        b.due("another hour stays", x.shaded(10, 90, 1, 0), 0);
    }

    private static ShadeRegister overcast() {
        ShadeRegister x = Towns.rich();
        for (int i = 1; i < 60; i++) {
            x.cloud(30 + i, 0);
        }
        return x;
    }

    private void cloud() {
        b.of("CLOUDS: how many there are. NONE for others, if it is there, or there are 60.");
        ShadeRegister x = Towns.flat();
        b.due("the first day and hour", x.cloud(0, 0), 1);
        b.due("the last day and hour", x.cloud(3599, 11), 2);
        b.due("the same day", x.cloud(0, 11), 3);
        b.due("the same hour", x.cloud(3599, 0), 4);
        b.due("it is there", x.cloud(0, 0), NONE);
        b.due("it is there too", x.cloud(3599, 0), NONE);
        for (int i = 5; i <= 60; i++) {
            b.due("cloud " + i, x.cloud(i, 5), i);
        }
        b.due("there are 60", x.cloud(61, 5), NONE);
        b.due("there are 60, and it is there", x.cloud(0, 0), NONE);
        b.due("clouds", x.about(6), 60);
        b.refused("it is there", y -> y.cloud(20, 3), NONE);
        for (int day : new int[] {-1, 3600}) {
            b.refused("day " + day, y -> y.cloud(day, 3), NONE);
        }
        for (int hour : new int[] {-1, 12}) {
            b.refused("hour " + hour, y -> y.cloud(20, hour), NONE);
        }
        b.due("sixty", overcast().about(6), 60);
        b.refused(ThingsBounds::overcast, "a 61st", y -> y.cloud(0, 0), NONE);
    }

    private static ShadeRegister sixteen() {
        ShadeRegister x = Towns.rich();
        for (int i = 3; i < 16; i++) {
            x.person();
        }
        return x;
    }

    private void person() {
        b.of("A PERSON: its number. NONE if there are 16.");
        ShadeRegister x = new ShadeRegister(4, 4);
        for (int i = 0; i < 16; i++) {
            b.due("persons ahead of " + i, x.about(3), i);
            b.due("person " + i, x.person(), i);
        }
        b.refused(ThingsBounds::sixteen, "there are 16", ShadeRegister::person, NONE);
        b.due("sixteen", sixteen().about(3), 16);
    }

    private static ShadeRegister mourning() {
        ShadeRegister x = Towns.rich();
        x.grant(0, 2, 0, 11, 11, 0, 0, 2);
        x.died(0, 9);
        return x;
    }

    private void died() {
        b.of("A PERSON DIED on a DAY (not behind the clock's): true. False for others, or if it was told.");
        b.due("on the clock's day", Towns.rich().died(0, 10), true);
        b.due("on the first day", Towns.rich().died(2, 0), true);
        b.refused("behind the clock's", x -> Bounds.bit(x.died(0, 11)), 0);
        b.refused("ahead of the first day", x -> Bounds.bit(x.died(0, -1)), 0);
        b.refused("no such person", x -> Bounds.bit(x.died(3, 10)), 0);
        b.refused("person -1", x -> Bounds.bit(x.died(-1, 10)), 0);
        b.refused(ThingsBounds::mourning, "told: the same day", x -> Bounds.bit(x.died(0, 9)), 0);
        b.refused(ThingsBounds::mourning, "told: another day", x -> Bounds.bit(x.died(0, 0)), 0);
        b.due("of another one it isn't told", mourning().died(1, 9), true);
        ShadeRegister x = new ShadeRegister(4, 4);
        x.person();
        b.due("on day 0", x.died(0, 0), true);
        b.due("on day 0 again", x.died(0, 0), false);
    }

    private void wall() {
        b.of("A WALL: its number. NONE: no such CELL, OWNER, HEIGHT, a THING that hasn't FELL is on the CELL, a STALL has it "
            + "on the clock's DAY or behind, or there are 24.");
        ShadeRegister x = Towns.flat();
        b.due("the first cell, the least height", x.wall(0, 0, 0), 0);
        b.due("the last cell, owner and height", x.wall(59, 2, 60), 1);
        b.due("its kind", x.thing(1, 0), 0);
        for (int cell : new int[] {-1, 60}) {
            b.refused("cell " + cell, y -> y.wall(cell, 0, 1), NONE);
        }
        for (int owner : new int[] {-1, 3}) {
            b.refused("owner " + owner, y -> y.wall(50, owner, 1), NONE);
        }
        for (int height : new int[] {-1, 61}) {
            b.refused("height " + height, y -> y.wall(50, 0, height), NONE);
        }
        for (int cell : new int[] {0, 12, 44}) {
            b.refused("on the thing of " + cell, y -> y.wall(cell, 0, 1), NONE);
        }
        b.due("where one fell", Towns.fallen().wall(0, 1, 1), 3);
        ShadeRegister z = Towns.fallen();
        z.wall(0, 1, 1);
        b.due("where one fell and another stands", z.wall(0, 1, 1), NONE);
        b.due("both are known on their days", z.height(0, 8, 10), 4);
        b.due("the other from today on", z.height(3, 10, 10), 1);
        b.due("one that fell today", fellToday().wall(0, 1, 1), 3);
        ShadeRegister w = Towns.flat(6, 4, 1);
        for (int i = 0; i < 24; i++) {
            b.due("wall " + i, w.wall(i, 0, 1), i);
        }
        w.fell(5, 0);
        b.due("there are 24, one of them fell", w.wall(5, 0, 1), NONE);
        b.due("24 still", w.about(4), 24);
    }

    private static ShadeRegister fellToday() {
        ShadeRegister x = Towns.rich();
        x.fell(0, 10);
        return x;
    }

    /** Rich towns have stall 0 on days 8 .. 20 with cell 30 in hour 2; the clock is on day 10. */
    private void wallAmongStalls() {
        b.refused("a stall has it", x -> x.wall(30, 0, 1), NONE);
        b.refused("a stall has it: tree", x -> x.tree(30, 0, 1, 1), NONE);
        b.refused("a stall has it: pole", x -> x.pole(30, 0, 1, 0, 0), NONE);
        ShadeRegister x = Towns.rich();
        x.place(0, 2, NONE);
        b.due("given up", x.wall(30, 0, 1), 3);
        int[][] spans = {{0, 9, 3}, {0, 10, NONE}, {10, 10, NONE}, {9, 9, 3}, {11, 11, NONE}, {3599, 3599, NONE}};
        for (int[] span : spans) {
            for (int hour : new int[] {0, 11}) {
                ShadeRegister y = Towns.rich();
                y.stall(1, span[0], span[1]);
                y.place(1, hour, 50);
                b.due("stall of days " + span[0] + " to " + span[1], y.wall(50, 0, 1), span[2]);
                b.due("beside it", y.wall(51, 0, 1), span[2] == NONE ? 3 : 4);
            }
        }
        ShadeRegister z = Towns.rich();
        z.days(10);
        b.due("on the stall's last day", z.wall(30, 0, 1), NONE);
        z.days(1);
        b.due("on the day behind", z.wall(30, 0, 1), 3);
    }

    private void tree() {
        b.of("A TREE: its number. NONE likewise, or no such GROWS.");
        ShadeRegister x = Towns.flat();
        b.due("least", x.tree(0, 0, 0, 1), 0);
        b.due("most", x.tree(59, 2, 60, 999), 1);
        b.due("its kind", x.thing(1, 0), 1);
        b.due("its grows", x.thing(1, 7), 999);
        for (int grows : new int[] {-1, 0, 1000, LEAST, MOST}) {
            b.refused("grows " + grows, y -> y.tree(50, 0, 1, grows), NONE);
        }
        b.refused("cell -1", y -> y.tree(-1, 0, 1, 1), NONE);
        b.refused("cell 60", y -> y.tree(60, 0, 1, 1), NONE);
        b.refused("owner -1", y -> y.tree(50, -1, 1, 1), NONE);
        b.refused("owner 3", y -> y.tree(50, 3, 1, 1), NONE);
        b.refused("height -1", y -> y.tree(50, 0, -1, 1), NONE);
        b.refused("height 61", y -> y.tree(50, 0, 61, 1), NONE);
        b.refused("on a wall", y -> y.tree(0, 0, 1, 1), NONE);
        b.refused("on a tree", y -> y.tree(12, 0, 1, 1), NONE);
        b.refused("on a pole", y -> y.tree(44, 0, 1, 1), NONE);
        b.refused("on a stall", y -> y.tree(30, 0, 1, 1), NONE);
        b.due("where one fell", Towns.fallen().tree(0, 1, 1, 1), 3);
        ShadeRegister z = Towns.flat(6, 4, 1);
        for (int i = 0; i < 24; i++) {
            b.due("tree " + i, z.tree(i, 0, 1, 1), i);
        }
        z.fell(0, 0);
        b.due("there are 24", z.tree(0, 0, 1, 1), NONE);
    }

    private void pole() {
        b.of("A POLE: its number. NONE likewise, or no such LEAN.");
        ShadeRegister x = Towns.flat();
        b.due("least", x.pole(0, 0, 0, -50, -50), 0);
        b.due("most", x.pole(59, 2, 60, 50, 50), 1);
        b.due("its kind", x.thing(1, 0), 2);
        for (int lean : new int[] {-51, 51, LEAST, MOST}) {
            b.refused("lx " + lean, y -> y.pole(50, 0, 1, lean, 0), NONE);
            b.refused("ly " + lean, y -> y.pole(50, 0, 1, 0, lean), NONE);
        }
        b.refused("cell -1", y -> y.pole(-1, 0, 1, 0, 0), NONE);
        b.refused("cell 60", y -> y.pole(60, 0, 1, 0, 0), NONE);
        b.refused("owner -1", y -> y.pole(50, -1, 1, 0, 0), NONE);
        b.refused("owner 3", y -> y.pole(50, 3, 1, 0, 0), NONE);
        b.refused("height -1", y -> y.pole(50, 0, -1, 0, 0), NONE);
        b.refused("height 61", y -> y.pole(50, 0, 61, 0, 0), NONE);
        b.refused("on a wall", y -> y.pole(0, 0, 1, 0, 0), NONE);
        b.refused("on a tree", y -> y.pole(12, 0, 1, 0, 0), NONE);
        b.refused("on a pole", y -> y.pole(44, 0, 1, 0, 0), NONE);
        b.refused("on a stall", y -> y.pole(30, 0, 1, 0, 0), NONE);
        b.due("where one fell", Towns.fallen().pole(0, 1, 1, 0, 0), 3);
        ShadeRegister z = Towns.flat(6, 4, 1);
        for (int i = 0; i < 24; i++) {
            b.due("pole " + i, z.pole(i, 0, 1, 0, 0), i);
        }
        z.fell(23, 0);
        b.due("there are 24", z.pole(23, 0, 1, 0, 0), NONE);
    }

    private static ShadeRegister fortyEntries() {
        ShadeRegister x = Towns.rich();
        for (int i = 3; i <= 40; i++) {
            x.raise(0, 8, 4);
        }
        return x;
    }

    private void raise() {
        b.of("An ENTRY from a DAY on (FROM .. 3599): how many it has. NONE for others, if it FELL, or there are 40.");
        b.due("from from", Towns.rich().raise(0, 5, 0), 3);
        b.due("from the last day", Towns.rich().raise(0, 3599, 60), 3);
        b.due("of another thing", Towns.rich().raise(1, 5, 0), 2);
        b.refused("ahead of from", x -> x.raise(0, 4, 3), NONE);
        b.refused("day 0, ahead of from", x -> x.raise(0, 0, 3), NONE);
        b.refused("behind the last day", x -> x.raise(0, 3600, 3), NONE);
        b.refused("height -1", x -> x.raise(0, 10, -1), NONE);
        b.refused("height 61", x -> x.raise(0, 10, 61), NONE);
        b.refused("thing -1", x -> x.raise(-1, 10, 3), NONE);
        b.refused("thing 3", x -> x.raise(3, 10, 3), NONE);
        b.refused(Towns::fallen, "it fell", x -> x.raise(0, 8, 3), NONE);
        b.refused(Towns::fallen, "it fell, a later day", x -> x.raise(0, 3599, 3), NONE);
        b.due("another one fell", Towns.fallen().raise(1, 8, 3), 2);
        b.due("forty", fortyEntries().thing(0, 4), 40);
        b.refused(ThingsBounds::fortyEntries, "there are 40", x -> x.raise(0, 10, 3), NONE);
        b.due("of another thing there are not", fortyEntries().raise(1, 10, 3), 2);
        ShadeRegister x = Towns.rich();
        for (int i = 3; i <= 40; i++) {
            b.due("entry " + i, x.raise(0, 10, 3), i);
        }
    }

    private void fell() {
        b.of("It FELL on a DAY (FROM to the clock's): true. False for others, or if it was told.");
        b.due("on from", Towns.rich().fell(0, 5), true);
        b.due("on the clock's day", Towns.rich().fell(2, 10), true);
        b.refused("ahead of from", x -> Bounds.bit(x.fell(0, 4)), 0);
        b.refused("behind the clock's", x -> Bounds.bit(x.fell(0, 11)), 0);
        b.refused("thing -1", x -> Bounds.bit(x.fell(-1, 10)), 0);
        b.refused("thing 3", x -> Bounds.bit(x.fell(3, 10)), 0);
        b.refused(Towns::fallen, "told: the same day", x -> Bounds.bit(x.fell(0, 9)), 0);
        b.refused(Towns::fallen, "told: another day", x -> Bounds.bit(x.fell(0, 10)), 0);
        b.due("of another one it isn't told", Towns.fallen().fell(1, 9), true);
        ShadeRegister x = Towns.walled();
        b.due("on day 0", x.fell(0, 0), true);
        b.due("on day 0 again", x.fell(0, 0), false);
        b.due("is told", x.thing(0, 5), 0);
    }

    private void height() {
        b.of("HEIGHT on a DAY as KNOWN on a DAY. NONE: none, and for others.");
        ShadeRegister x = Towns.rich();
        b.due("on from", x.height(0, 5, 5), 3);
        b.due("on the last day, known on the last day", x.height(0, 3599, 3599), 4);
        b.due("none: ahead of from", x.height(0, 4, 10), NONE);
        b.due("none: known ahead of from", x.height(0, 10, 4), NONE);
        b.due("none: fell", Towns.fallen().height(0, 9, 10), NONE);
        b.due("a day ahead of its fall", Towns.fallen().height(0, 8, 10), 4);
        b.refused("thing -1", y -> y.height(-1, 10, 10), NONE);
        b.refused("thing 3", y -> y.height(3, 10, 10), NONE);
        for (int day : new int[] {-1, 3600}) {
            b.refused("day " + day, y -> y.height(0, day, 10), NONE);
            b.refused("known " + day, y -> y.height(0, 10, day), NONE);
        }
    }

    private void measure() {
        b.of("MEASURED: the HEIGHT that it has then (as KNOWN now).");
        b.due("as it is", Towns.walled().measure(0, 0, 3), 3);
        b.due("mended", Towns.walled().measure(0, 0, 9), 9);
        b.due("mended to the least", Towns.walled().measure(0, 0, 1), 1);
        ShadeRegister x = Towns.flat();
        x.tree(0, 0, 5, 1);
        x.days(8);
        // It grew 8 since it came: an entry of 0 makes it 8, though 2 was measured.
        b.due("a tree that grew more than was measured", x.measure(0, 0, 2), 8);
        b.due("as known now", x.height(0, 8, 8), 8);
        b.due("as known a day ahead", x.height(0, 8, 7), 13);
    }

    private static ShadeRegister measured() {
        ShadeRegister x = Towns.walled();
        x.measure(0, 0, 3);
        return x;
    }

    private static ShadeRegister clouded() {
        ShadeRegister x = Towns.walled();
        x.cloud(0, 0);
        return x;
    }

    private static ShadeRegister fullOfEntries() {
        ShadeRegister x = Towns.walled();
        for (int i = 2; i <= 40; i++) {
            x.raise(0, 0, 3);
        }
        return x;
    }

    private static ShadeRegister fallenWall() {
        ShadeRegister x = Towns.walled();
        x.days(3);
        x.fell(0, 3);
        return x;
    }

    private void measureRefused() {
        b.of("NONE: others, it doesn't STAND, it was measured on this DAY, CLOUDS, no HEIGHT is so, or an ENTRY is wanted and "
            + "there are 40: nothing is done.");
        for (int thing : new int[] {-1, 1}) {
            b.refused(Towns::walled, "thing " + thing, x -> x.measure(thing, 0, 4), NONE);
        }
        for (int hour : new int[] {-1, 12}) {
            b.refused(Towns::walled, "hour " + hour, x -> x.measure(0, hour, 0), NONE);
        }
        for (int cell : new int[] {-1, 60}) {
            b.refused(Towns::walled, "cell " + cell, x -> x.measure(0, 0, cell), NONE);
        }
        b.refused(ThingsBounds::fallenWall, "it doesn't stand", x -> x.measure(0, 0, 4), NONE);
        b.refused(ThingsBounds::measured, "measured on this day", x -> x.measure(0, 0, 4), NONE);
        b.refused(ThingsBounds::measured, "measured on this day, as it is", x -> x.measure(0, 0, 3), NONE);
        b.refused(ThingsBounds::clouded, "clouds", x -> x.measure(0, 0, 4), NONE);
        b.refused(Towns::walled, "no height is so", x -> x.measure(0, 0, 14), NONE);
        b.refused(ThingsBounds::fullOfEntries, "an entry is wanted, there are 40", x -> x.measure(0, 0, 4), NONE);
        b.due("no entry is wanted", fullOfEntries().measure(0, 0, 3), 3);
        b.due("another hour than the clouds'", clouded().measure(0, 1, 0), 3);
        ShadeRegister x = measured();
        x.days(1);
        b.due("on the next day", x.measure(0, 0, 4), 4);
        ShadeRegister y = clouded();
        y.days(1);
        b.due("on the day behind the clouds", y.measure(0, 0, 4), 4);
        ShadeRegister z = Towns.walled();
        for (int i = 2; i <= 39; i++) {
            z.raise(0, 0, 3);
        }
        b.due("an entry is wanted, there are 39", z.measure(0, 0, 4), 4);
        b.due("there are 40 then", z.thing(0, 4), 40);
    }

    private void thing() {
        b.of("Of a THING: 0 KIND, 1 CELL, 2 OWNER, 3 FROM, 4 ENTRIES, 5 the DAY on which it FELL (NONE), 6 the DAY of its "
            + "last measuring (NONE), 7 GROWS (0 without). NONE for others.");
        int[][] want = {{0, 0, 0, 5, 2, NONE, 10, 0}, {1, 12, 1, 5, 1, NONE, NONE, 10}, {2, 44, 2, 5, 1, NONE, NONE, 0}};
        ShadeRegister x = Towns.rich();
        for (int i = 0; i < 3; i++) {
            for (int what = 0; what < 8; what++) {
                b.due("thing " + i + ": " + what, x.thing(i, what), want[i][what]);
            }
        }
        b.due("fell", Towns.fallen().thing(0, 5), 9);
        for (int what : new int[] {-1, 8, LEAST, MOST}) {
            b.refused("what " + what, y -> y.thing(0, what), NONE);
        }
        for (int thing : new int[] {-1, 3, LEAST, MOST}) {
            b.refused("thing " + thing, y -> y.thing(thing, 0), NONE);
            b.refused("grows of thing " + thing, y -> y.thing(thing, 7), NONE);
        }
    }

    private void entry() {
        b.of("Of ENTRY i of a THING: 0 its DAY, 1 HEIGHT, 2 the DAY on which it was TOLD. NONE if there is none such.");
        ShadeRegister x = Towns.rich();
        int[][] want = {{5, 3, 5}, {8, 4, 10}};
        for (int i = 0; i < 2; i++) {
            for (int what = 0; what < 3; what++) {
                b.due("entry " + i + ": " + what, x.entry(0, i, what), want[i][what]);
            }
        }
        for (int i : new int[] {-1, 2, LEAST, MOST}) {
            b.refused("entry " + i, y -> y.entry(0, i, 0), NONE);
        }
        b.refused("entry 1 of another", y -> y.entry(1, 1, 0), NONE);
        for (int what : new int[] {-1, 3, LEAST, MOST}) {
            b.refused("what " + what, y -> y.entry(0, 0, what), NONE);
        }
        for (int thing : new int[] {-1, 3, LEAST, MOST}) {
            b.refused("thing " + thing, y -> y.entry(thing, 0, 0), NONE);
        }
        b.due("the 40th", fortyEntries().entry(0, 39, 0), 8);
        b.due("behind the 40th", fortyEntries().entry(0, 40, 0), NONE);
        ShadeRegister z = fortyEntries();
        z.bill(0, 9, 10, 0);
        b.due("what a bill asks about is none", z.entry(0, 40, 0), NONE);
        b.due("the first of a thing that fell", Towns.fallen().entry(0, 0, 1), 3);
    }
}
