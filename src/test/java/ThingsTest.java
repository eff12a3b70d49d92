/** Promises 1 to 15 and 36: the ground, the clock, sun and clouds, persons, things and their heights. */
public final class ThingsTest {
    private static final int NONE = ShadeRegister.NONE;
    private static final Check CHECK = new Check("ThingsTest");

    public static void main(String[] args) {
        newObject();
        days();
        sun();
        sunAtFirst();
        clouds();
        persons();
        deaths();
        walls();
        trees();
        poles();
        limitOfThings();
        raising();
        limitOfEntries();
        falling();
        heights();
        growth();
        measuring();
        measuringRefused();
        measuringFullThing();
        measuringTrees();
        telling();
        about();
        CHECK.end();
    }

    private static void due(String what, long got, long want) {
        CHECK.due(what, got, want);
    }

    private static void due(String what, boolean got, boolean want) {
        CHECK.due(what, got, want);
    }

    /** A ground with persons 0 .. 2 and the sun of each month's hour 0 a cell to the right for one of height. */
    private static ShadeRegister town() {
        ShadeRegister x = new ShadeRegister(10, 6);
        for (int i = 0; i < 3; i++) {
            x.person();
        }
        for (int month = 0; month < 12; month++) {
            x.sun(month, 0, 100, 0);
        }
        return x;
    }

    private static void newObject() {
        int[][] sizes = {{4, 4, 4, 4}, {16, 12, 16, 12}, {3, 3, 4, 4}, {17, 13, 16, 12}, {7, 9, 7, 9},
            {Integer.MIN_VALUE, Integer.MAX_VALUE, 4, 12}, {Integer.MAX_VALUE, Integer.MIN_VALUE, 16, 4}};
        for (int[] size : sizes) {
            ShadeRegister x = new ShadeRegister(size[0], size[1]);
            due("wide of " + size[0], x.about(1), size[2]);
            due("high of " + size[1], x.about(2), size[3]);
            for (int what : new int[] {0, 3, 4, 5, 6, 7, 8, 9, 10}) {
                due("new: about " + what, x.about(what), 0);
            }
            due("new: gives", x.gives(1, 1, 1, 1, 1, 1), 0);
            due("new: last cell", x.shaded(size[2] * size[3] - 1, 0, 0, 0), 0);
            due("new: behind the last cell", x.shaded(size[2] * size[3], 0, 0, 0), NONE);
        }
    }

    private static void days() {
        ShadeRegister x = new ShadeRegister(4, 4);
        due("days 0", x.days(0), NONE);
        due("days -1", x.days(-1), NONE);
        due("days 401", x.days(401), NONE);
        due("days least", x.days(Integer.MIN_VALUE), NONE);
        due("days most", x.days(Integer.MAX_VALUE), NONE);
        due("days 1", x.days(1), 1);
        for (int i = 1; i <= 8; i++) {
            due("days 400", x.days(400), 1 + 400 * i);
        }
        due("days beyond", x.days(399), NONE);
        due("days to the last", x.days(398), 3599);
        due("days at the end", x.days(1), NONE);
        due("clock", x.about(0), 3599);
    }

    private static void sun() {
        ShadeRegister x = new ShadeRegister(4, 4);
        due("sun of all edges", x.sun(11, 11, 300, -300), true);
        due("sun of other edges", x.sun(0, 0, -300, 300), true);
        due("sun month -1", x.sun(-1, 0, 0, 0), false);
        due("sun month 12", x.sun(12, 0, 0, 0), false);
        due("sun hour -1", x.sun(0, -1, 0, 0), false);
        due("sun hour 12", x.sun(0, 12, 0, 0), false);
        due("sun ux 301", x.sun(0, 0, 301, 0), false);
        due("sun ux -301", x.sun(0, 0, -301, 0), false);
        due("sun uy 301", x.sun(0, 0, 0, 301), false);
        due("sun uy -301", x.sun(0, 0, 0, -301), false);

        ShadeRegister y = town();
        y.wall(12, 0, 1);
        due("by the sun that was set", y.shadow(0, 0, 0, 0), 1);
        due("to the right", y.shaded(13, 0, 0, 0), 1);
        y.sun(0, 0, -100, -100);
        due("set anew: not to the right", y.shaded(13, 0, 0, 0), 0);
        due("set anew: up and left", y.shaded(1, 0, 0, 0), 1);
        y.sun(0, 0, 301, 0);
        due("refused: as before", y.shaded(1, 0, 0, 0), 1);
        due("another month: as before", y.shaded(13, 30, 0, 0), 1);
        due("another year: the same month", y.shaded(1, 360, 0, 0), 1);
    }

    private static void sunAtFirst() {
        ShadeRegister x = new ShadeRegister(16, 12);
        x.person();
        x.wall(8, 0, 2);
        // Month 0, hour 0: (-220, 50); heights 1 and 2 have (650, 100) and (430, 150).
        due("month 0, hour 0, height 1", x.shaded(16 + 6, 0, 0, 0), 1);
        due("month 0, hour 0, height 2", x.shaded(16 + 4, 0, 0, 0), 1);
        due("month 0, hour 0, all", x.shadow(0, 0, 0, 0), 2);
        // Month 6, hour 11: (220, 20); (1070, 70) and (1290, 90).
        due("month 6, hour 11, height 1", x.shaded(10, 180, 11, 0), 1);
        due("month 6, hour 11, height 2", x.shaded(12, 180, 11, 0), 1);
        // Month 11, hour 6: (20, 45); (870, 95) is its own cell, (890, 140) below it.
        due("month 11, hour 6", x.shaded(16 + 8, 330, 6, 0), 1);
        due("month 11, hour 6, all", x.shadow(0, 330, 6, 0), 1);
    }

    private static void clouds() {
        ShadeRegister x = town();
        x.wall(0, 0, 2);
        due("cloud day -1", x.cloud(-1, 0), NONE);
        due("cloud day 3600", x.cloud(3600, 0), NONE);
        due("cloud hour -1", x.cloud(0, -1), NONE);
        due("cloud hour 12", x.cloud(0, 12), NONE);
        due("ahead of a cloud", x.shaded(1, 5, 0, 5), 1);
        due("cloud", x.cloud(5, 0), 1);
        due("cloud again", x.cloud(5, 0), NONE);
        due("under it", x.shaded(1, 5, 0, 5), 0);
        due("its shadow", x.shadow(0, 5, 0, 5), 0);
        due("under it, as known ahead", x.shaded(1, 5, 0, 0), 0);
        due("a day behind", x.shaded(1, 6, 0, 6), 1);
        due("its last day", x.cloud(3599, 11), 2);
        for (int i = 3; i <= 60; i++) {
            due("cloud " + i, x.cloud(100 + i, 3), i);
        }
        due("cloud 61", x.cloud(99, 3), NONE);
        due("clouds", x.about(6), 60);
    }

    private static void persons() {
        ShadeRegister x = new ShadeRegister(4, 4);
        due("no owner yet", x.wall(0, 0, 1), NONE);
        for (int i = 0; i < 16; i++) {
            due("person " + i, x.person(), i);
        }
        due("person 16", x.person(), NONE);
        due("persons", x.about(3), 16);
        due("owner 15", x.wall(0, 15, 1), 0);
        due("owner 16", x.wall(1, 16, 1), NONE);
    }

    private static void deaths() {
        ShadeRegister x = town();
        x.days(10);
        due("died: no such person", x.died(3, 1), false);
        due("died: person -1", x.died(-1, 1), false);
        due("died: tomorrow", x.died(0, 11), false);
        due("died: day -1", x.died(0, -1), false);
        due("died: today", x.died(0, 10), true);
        due("died: told already", x.died(0, 9), false);
        due("died: the first day", x.died(1, 0), true);
    }

    private static void walls() {
        ShadeRegister x = town();
        due("wall cell -1", x.wall(-1, 0, 1), NONE);
        due("wall cell 60", x.wall(60, 0, 1), NONE);
        due("wall owner -1", x.wall(0, -1, 1), NONE);
        due("wall owner 3", x.wall(0, 3, 1), NONE);
        due("wall height -1", x.wall(0, 0, -1), NONE);
        due("wall height 61", x.wall(0, 0, 61), NONE);
        due("wall height 0", x.wall(0, 0, 0), 0);
        due("wall height 60", x.wall(59, 2, 60), 1);
        due("on a wall", x.wall(0, 0, 1), NONE);
        x.days(5);
        x.fell(0, 2);
        due("where one fell", x.wall(0, 1, 4), 2);
        due("stands from today", x.thing(2, 3), 5);

        due("stall", x.stall(0, 6, 7), 0);
        x.place(0, 3, 20);
        due("where a stall will be", x.wall(20, 0, 1), NONE);
        x.days(2);
        due("where a stall is on its last day", x.wall(20, 0, 1), NONE);
        due("tree there", x.tree(20, 0, 1, 1), NONE);
        due("pole there", x.pole(20, 0, 1, 0, 0), NONE);
        x.days(1);
        due("where a stall was", x.wall(20, 0, 1), 3);
    }

    private static void trees() {
        ShadeRegister x = town();
        due("tree grows 0", x.tree(0, 0, 1, 0), NONE);
        due("tree grows 1000", x.tree(0, 0, 1, 1000), NONE);
        due("tree cell 60", x.tree(60, 0, 1, 1), NONE);
        due("tree owner 3", x.tree(0, 3, 1, 1), NONE);
        due("tree height 61", x.tree(0, 0, 61, 1), NONE);
        due("tree grows 1", x.tree(0, 0, 1, 1), 0);
        due("tree grows 999", x.tree(1, 0, 1, 999), 1);
        due("tree on a tree", x.tree(1, 0, 1, 5), NONE);
    }

    private static void poles() {
        ShadeRegister x = town();
        due("pole lx 51", x.pole(0, 0, 1, 51, 0), NONE);
        due("pole lx -51", x.pole(0, 0, 1, -51, 0), NONE);
        due("pole ly 51", x.pole(0, 0, 1, 0, 51), NONE);
        due("pole ly -51", x.pole(0, 0, 1, 0, -51), NONE);
        due("pole cell -1", x.pole(-1, 0, 1, 0, 0), NONE);
        due("pole owner 3", x.pole(0, 3, 1, 0, 0), NONE);
        due("pole height -1", x.pole(0, 0, -1, 0, 0), NONE);
        due("pole", x.pole(21, 0, 2, -50, 50), 0);
        due("pole on a pole", x.pole(21, 0, 1, 0, 0), NONE);
        // (100 - 50, 0 + 50) for one of height, from (150, 250): (200, 300), (250, 350).
        due("its shade leans", x.shaded(32, 0, 0, 0), 1);
        due("its shade leans to this alone", x.shadow(0, 0, 0, 0), 1);
        due("pole of other edges", x.pole(22, 0, 1, 50, -50), 1);
        // (350 + 50, 250 - 50)... from (250, 250) by (150, -50): (400, 200).
        due("its shade leans too", x.shaded(24, 0, 0, 0), 2);
    }

    private static void limitOfThings() {
        ShadeRegister x = town();
        for (int i = 0; i < 24; i++) {
            due("thing " + i, x.wall(i, 0, 1), i);
        }
        due("wall 24", x.wall(24, 0, 1), NONE);
        due("tree 24", x.tree(24, 0, 1, 1), NONE);
        due("pole 24", x.pole(24, 0, 1, 0, 0), NONE);
        x.fell(3, 0);
        due("one that fell is still one", x.wall(24, 0, 1), NONE);
        due("things", x.about(4), 24);
        due("standing", x.about(10), 23);
    }

    private static void raising() {
        ShadeRegister x = town();
        x.days(7);
        x.wall(0, 0, 3);
        due("raise: no such thing", x.raise(1, 8, 1), NONE);
        due("raise: thing -1", x.raise(-1, 8, 1), NONE);
        due("raise: ahead of from", x.raise(0, 6, 1), NONE);
        due("raise: day 3600", x.raise(0, 3600, 1), NONE);
        due("raise: height -1", x.raise(0, 8, -1), NONE);
        due("raise: height 61", x.raise(0, 8, 61), NONE);
        due("raise: on from", x.raise(0, 7, 60), 2);
        due("raise: last day", x.raise(0, 3599, 0), 3);
        due("height on the last day", x.height(0, 3599, 7), 0);
        due("height ahead of it", x.height(0, 3598, 7), 60);
        x.days(1);
        x.fell(0, 8);
        due("raise: it fell", x.raise(0, 7, 1), NONE);
    }

    private static void limitOfEntries() {
        ShadeRegister x = town();
        x.wall(0, 0, 3);
        for (int i = 2; i <= 40; i++) {
            due("entry " + i, x.raise(0, i, i), i);
        }
        due("entry 41", x.raise(0, 1, 1), NONE);
        due("entries", x.thing(0, 4), 40);
        due("the last one", x.entry(0, 39, 1), 40);
        due("behind it", x.entry(0, 40, 1), NONE);
    }

    private static void falling() {
        ShadeRegister x = town();
        x.days(4);
        x.wall(0, 0, 3);
        x.days(4);
        due("fell: no such thing", x.fell(1, 5), false);
        due("fell: thing -1", x.fell(-1, 5), false);
        due("fell: ahead of from", x.fell(0, 3), false);
        due("fell: tomorrow", x.fell(0, 9), false);
        due("not fallen", x.thing(0, 5), NONE);
        due("fell: on from", x.fell(0, 4), true);
        due("fell: told already", x.fell(0, 5), false);
        due("fallen", x.thing(0, 5), 4);
        due("as known now", x.height(0, 4, 8), NONE);
        due("as known ahead", x.height(0, 4, 7), 3);
        due("as known ahead, on a later day", x.height(0, 3599, 7), 3);
        x.wall(1, 0, 3);
        due("fell: today", x.fell(1, 8), true);
    }

    private static void heights() {
        ShadeRegister x = town();
        x.days(10);
        x.wall(0, 0, 3);
        due("height: no such thing", x.height(1, 10, 10), NONE);
        due("height: thing -1", x.height(-1, 10, 10), NONE);
        due("height: day 3600", x.height(0, 3600, 10), NONE);
        due("height: day -1", x.height(0, -1, 10), NONE);
        due("height: known 3600", x.height(0, 10, 3600), NONE);
        due("height: known -1", x.height(0, 10, -1), NONE);
        due("ahead of from", x.height(0, 9, 10), NONE);
        due("known ahead of from", x.height(0, 10, 9), NONE);
        due("on from", x.height(0, 10, 10), 3);
        x.days(10);
        x.raise(0, 15, 5);
        due("from its day", x.height(0, 15, 20), 5);
        due("ahead of its day", x.height(0, 14, 20), 3);
        due("known ahead of telling", x.height(0, 15, 19), 3);
        x.raise(0, 12, 9);
        due("an entry with an earlier day", x.height(0, 14, 20), 9);
        due("the greatest day", x.height(0, 16, 20), 5);
        x.raise(0, 15, 7);
        due("of like days the latest", x.height(0, 16, 20), 7);
        x.days(1);
        x.raise(0, 15, 2);
        due("known a day earlier", x.height(0, 16, 20), 7);
        due("known now", x.height(0, 16, 21), 2);
        due("known in time to come", x.height(0, 16, 3599), 2);
    }

    private static void growth() {
        ShadeRegister x = town();
        x.tree(0, 0, 58, 7);
        due("ahead of growing", x.height(0, 6, 0), 58);
        due("one more", x.height(0, 7, 0), 59);
        due("two more", x.height(0, 14, 0), 60);
        due("60 at most", x.height(0, 3599, 0), 60);
        x.raise(0, 10, 1);
        due("from its entry's day", x.height(0, 16, 0), 1);
        due("one more from there", x.height(0, 17, 0), 2);
        due("ahead of it", x.height(0, 9, 0), 59);
        x.wall(1, 0, 5);
        due("a wall doesn't grow", x.height(1, 3599, 0), 5);
    }

    private static void measuring() {
        ShadeRegister x = town();
        for (int month = 0; month < 12; month++) {
            x.sun(month, 1, 50, 0);
        }
        x.days(10);
        x.wall(0, 0, 3);
        x.days(10);
        // By hour 1 heights 1 and 2 have cell 1 (100, 150), 3 and 4 cell 2, 5 and 6 cell 3, ..
        due("as told", x.measure(0, 1, 2), 3);
        due("nothing mended", x.thing(0, 4), 1);
        due("measured", x.thing(0, 6), 20);
        due("twice on a day", x.measure(0, 1, 2), NONE);
        x.days(5);
        due("nearest from below", x.measure(0, 1, 4), 7);
        due("mended", x.thing(0, 4), 2);
        due("from behind the last measuring", x.entry(0, 1, 0), 21);
        due("its height", x.entry(0, 1, 1), 7);
        due("told", x.entry(0, 1, 2), 25);
        x.days(5);
        due("nearest from above", x.measure(0, 1, 1), 2);
        due("from behind the last measuring again", x.entry(0, 2, 0), 26);
        x.days(5);
        x.raise(0, 34, 9);
        due("behind a later entry", x.measure(0, 1, 4), 8);
        due("from that entry's day", x.entry(0, 4, 0), 34);
        due("as known then", x.height(0, 34, 34), 2);

        ShadeRegister y = town();
        y.days(3);
        y.wall(0, 0, 3);
        y.days(3);
        due("never measured", y.measure(0, 0, 5), 5);
        due("from from", y.entry(0, 1, 0), 3);
        due("on a day that is over", y.height(0, 4, 6), 5);

        ShadeRegister w = new ShadeRegister(16, 12);
        w.person();
        w.sun(0, 0, 25, 15);
        w.wall(16, 0, 60);
        w.pole(20, 0, 3, 50, -25);
        // Heights 58 to 60 have cell (15, 10) by (25, 15): (1550, 1050) with 60.
        due("the greatest height", w.measure(0, 0, 16 * 10 + 15), 60);
        due("the greatest height as told", w.thing(0, 4), 1);
        // By (75, -10) from (450, 150): (675, 120) with 3, (750, 110) with 4, (825, 100) with 5, (900, 90) with 6.
        due("by its lean", w.measure(1, 0, 16 + 7), 4);

        ShadeRegister z = town();
        z.sun(0, 2, 0, 0);
        z.wall(0, 0, 0);
        due("its own cell, of height 0", z.measure(0, 2, 0), 1);
        due("on the first day", z.entry(0, 1, 0), 0);
    }

    private static void measuringRefused() {
        ShadeRegister x = town();
        x.wall(0, 0, 3);
        x.wall(20, 0, 3);
        x.cloud(0, 0);
        due("measure: no such thing", x.measure(2, 1, 1), NONE);
        due("measure: thing -1", x.measure(-1, 1, 1), NONE);
        due("measure: hour 12", x.measure(0, 12, 1), NONE);
        due("measure: hour -1", x.measure(0, -1, 1), NONE);
        due("measure: cell -1", x.measure(0, 1, -1), NONE);
        due("measure: cell 60", x.measure(0, 1, 60), NONE);
        due("measure: clouds", x.measure(0, 0, 1), NONE);
        x.days(1);
        due("measure: no height", x.measure(0, 0, 10), NONE);
        due("not measured so far", x.thing(0, 6), NONE);
        due("measured on the same day", x.measure(0, 0, 1), 1);
        x.fell(1, 1);
        due("measure: it fell", x.measure(1, 0, 21), NONE);
    }

    private static void measuringFullThing() {
        ShadeRegister x = town();
        x.wall(0, 0, 3);
        for (int i = 2; i <= 40; i++) {
            x.raise(0, 0, 3);
        }
        due("an entry wanted, 40 are there", x.measure(0, 0, 4), NONE);
        due("nothing is done", x.thing(0, 6), NONE);
        due("none wanted", x.measure(0, 0, 3), 3);
        due("measured", x.thing(0, 6), 0);
    }

    private static void measuringTrees() {
        ShadeRegister x = town();
        x.tree(0, 0, 2, 10);
        x.tree(10, 0, 2, 2);
        x.days(20);
        due("as it grew", x.measure(0, 0, 4), 4);
        due("nothing mended", x.thing(0, 4), 1);
        // It grew 10 since day 0, so no entry of 0 or more makes it 3: with 0 it is 10.
        due("less than it grew", x.measure(1, 0, 13), 10);
        due("0 at least", x.entry(1, 1, 1), 0);
        x.days(25);
        // From day 21 to day 45 it grew 2.
        due("mended less what it grew", x.measure(0, 0, 9), 9);
        due("its day", x.entry(0, 1, 0), 21);
        due("its height", x.entry(0, 1, 1), 7);
        due("on a day between", x.height(0, 31, 45), 8);
    }

    private static void telling() {
        ShadeRegister x = town();
        x.days(3);
        x.wall(5, 0, 3);
        x.tree(6, 1, 4, 77);
        x.pole(7, 2, 5, 1, 2);
        int[][] want = {{0, 5, 0, 3, 1, NONE, NONE, 0}, {1, 6, 1, 3, 1, NONE, NONE, 77}, {2, 7, 2, 3, 1, NONE, NONE, 0}};
        for (int i = 0; i < 3; i++) {
            for (int what = 0; what < 8; what++) {
                due("thing " + i + " " + what, x.thing(i, what), want[i][what]);
            }
            due("thing " + i + " -1", x.thing(i, -1), NONE);
            due("thing " + i + " 8", x.thing(i, 8), NONE);
            due("first day of " + i, x.entry(i, 0, 0), 3);
            due("first height of " + i, x.entry(i, 0, 1), 3 + i);
            due("first told of " + i, x.entry(i, 0, 2), 3);
        }
        due("thing 3", x.thing(3, 0), NONE);
        due("thing -1", x.thing(-1, 0), NONE);
        due("entry of thing 3", x.entry(3, 0, 0), NONE);
        due("entry of thing -1", x.entry(-1, 0, 0), NONE);
        due("entry 1", x.entry(0, 1, 0), NONE);
        due("entry -1", x.entry(0, -1, 0), NONE);
        due("entry's 3", x.entry(0, 0, 3), NONE);
        due("entry's -1", x.entry(0, 0, -1), NONE);
    }

    private static void about() {
        ShadeRegister x = town();
        x.days(30);
        x.wall(0, 0, 1);
        x.tree(1, 0, 0, 9);
        x.cloud(4, 4);
        x.grant(0, 1, 0, 11, 11, 0, 9, 0);
        x.stall(0, 1, 2);
        x.stall(0, 1, 2);
        x.feed(0, 0, 0, 0, 0);
        int[] want = {30, 10, 6, 3, 2, 1, 1, 2, 0, 20, 2};
        for (int what = 0; what < want.length; what++) {
            due("about " + what, x.about(what), want[what]);
        }
        due("about -1", x.about(-1), NONE);
        due("about 11", x.about(11), NONE);
        x.fell(0, 30);
        due("standing", x.about(10), 1);
    }
}
