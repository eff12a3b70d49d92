/** Promises 16 to 22: grants and holders, shade and its parts, accounts and bills. */
public final class RightsTest {
    private static final int NONE = ShadeRegister.NONE;
    private static final Check CHECK = new Check("RightsTest");

    public static void main(String[] args) {
        grantsRefused();
        limitOfGrants();
        sales();
        leases();
        wills();
        hoursAndMonths();
        orderOfGrants();
        holdersRefused();
        shade();
        twelveAtMost();
        shadeRefused();
        parts();
        shadows();
        accounts();
        accountsAsKnown();
        bills();
        billsOfMoving();
        billsRefused();
        CHECK.end();
    }

    private static void due(String what, long got, long want) {
        CHECK.due(what, got, want);
    }

    /** Persons 0 .. 4; no shade at all but in hours 0 (a cell to the right for one of height). */
    private static ShadeRegister town() {
        ShadeRegister x = new ShadeRegister(16, 4);
        for (int i = 0; i < 5; i++) {
            x.person();
        }
        for (int month = 0; month < 12; month++) {
            x.sun(month, 0, 100, 0);
            for (int hour = 1; hour < 12; hour++) {
                x.sun(month, hour, 0, 0);
            }
        }
        return x;
    }

    private static void grantsRefused() {
        ShadeRegister x = town();
        x.wall(0, 0, 3);
        due("giver 5", x.grant(5, 1, 0, 11, 11, 0, 9, 0), NONE);
        due("giver -1", x.grant(-1, 1, 0, 11, 11, 0, 9, 0), NONE);
        due("taker 5", x.grant(0, 5, 0, 11, 11, 0, 9, 0), NONE);
        due("taker -1", x.grant(0, -1, 0, 11, 11, 0, 9, 0), NONE);
        due("one and the same", x.grant(0, 0, 0, 11, 11, 0, 9, 0), NONE);
        due("thing 1", x.grant(0, 1, 1, 11, 11, 0, 9, 0), NONE);
        due("thing -1", x.grant(0, 1, -1, 11, 11, 0, 9, 0), NONE);
        due("hours -1", x.grant(0, 1, 0, -1, 11, 0, 9, 0), NONE);
        due("hours 0 to 12", x.grant(0, 1, 0, 12, 11, 0, 9, 0), NONE);
        due("hours 12 to 11", x.grant(0, 1, 0, 16 * 12 + 11, 11, 0, 9, 0), NONE);
        due("hours 5 to 4", x.grant(0, 1, 0, 16 * 5 + 4, 11, 0, 9, 0), NONE);
        due("hours least", x.grant(0, 1, 0, Integer.MIN_VALUE, 11, 0, 9, 0), NONE);
        due("hours most", x.grant(0, 1, 0, Integer.MAX_VALUE, 11, 0, 9, 0), NONE);
        due("months -1", x.grant(0, 1, 0, 11, -1, 0, 9, 0), NONE);
        due("months 0 to 12", x.grant(0, 1, 0, 11, 12, 0, 9, 0), NONE);
        due("months 12 to 0", x.grant(0, 1, 0, 11, 16 * 12, 0, 9, 0), NONE);
        due("from -1", x.grant(0, 1, 0, 11, 11, -1, 9, 0), NONE);
        due("to 3600", x.grant(0, 1, 0, 11, 11, 0, 3600, 0), NONE);
        due("to below from", x.grant(0, 1, 0, 11, 11, 9, 8, 0), NONE);
        due("to below from in a will", x.grant(0, 1, 0, 11, 11, 9, 8, 2), NONE);
        due("sort -1", x.grant(0, 1, 0, 11, 11, 0, 9, -1), NONE);
        due("sort 3", x.grant(0, 1, 0, 11, 11, 0, 9, 3), NONE);
        due("none so far", x.about(5), 0);
        due("all edges", x.grant(0, 4, 0, 16 * 11 + 11, 16 * 11, 0, 3599, 2), 0);
        due("one day", x.grant(0, 4, 0, 0, 0, 3599, 3599, 1), 1);
    }

    private static void limitOfGrants() {
        ShadeRegister x = town();
        x.wall(0, 0, 3);
        for (int i = 0; i < 60; i++) {
            due("grant " + i, x.grant(0, 1, 0, 11, 11, 0, 9, 1), i);
        }
        due("grant 60", x.grant(0, 1, 0, 11, 11, 0, 9, 1), NONE);
        due("grants", x.about(5), 60);
    }

    private static void sales() {
        ShadeRegister x = town();
        x.wall(0, 0, 3);
        x.days(10);
        x.grant(0, 1, 0, 11, 11, 20, 22, 0);
        due("ahead of a sale", x.holder(0, 19, 0, 10), 0);
        due("from its first day", x.holder(0, 20, 0, 10), 1);
        due("whatever the last", x.holder(0, 3599, 0, 10), 1);
        due("known ahead of telling", x.holder(0, 20, 0, 9), 0);
    }

    private static void leases() {
        ShadeRegister x = town();
        x.wall(0, 0, 3);
        x.grant(0, 1, 0, 11, 11, 20, 22, 1);
        due("ahead of a lease", x.holder(0, 19, 0, 0), 0);
        due("its first day", x.holder(0, 20, 0, 0), 1);
        due("its last day", x.holder(0, 22, 0, 0), 1);
        due("behind it", x.holder(0, 23, 0, 0), 0);
    }

    private static void wills() {
        ShadeRegister x = town();
        x.wall(0, 0, 3);
        x.grant(0, 1, 0, 11, 11, 5, 5, 2);
        x.days(30);
        due("giver alive", x.holder(0, 30, 0, 30), 0);
        due("on its days, giver alive", x.holder(0, 5, 0, 30), 0);
        x.died(0, 20);
        due("ahead of the death", x.holder(0, 19, 0, 30), 0);
        due("from the death on", x.holder(0, 20, 0, 30), 1);
        due("long behind", x.holder(0, 3599, 0, 30), 1);
        due("the death not known", x.holder(0, 25, 0, 29), 0);
        x.died(1, 20);
        due("the taker's death", x.holder(0, 25, 0, 30), 1);
    }

    private static void hoursAndMonths() {
        ShadeRegister x = town();
        x.wall(0, 0, 3);
        x.grant(0, 1, 0, 16 * 3 + 5, 16 * 10 + 1, 0, 3599, 0);
        due("hour ahead", x.holder(0, 0, 2, 0), 0);
        due("first hour", x.holder(0, 0, 3, 0), 1);
        due("last hour", x.holder(0, 0, 5, 0), 1);
        due("hour behind", x.holder(0, 0, 6, 0), 0);
        due("month 1", x.holder(0, 59, 4, 0), 1);
        due("month 2", x.holder(0, 60, 4, 0), 0);
        due("month 9", x.holder(0, 299, 4, 0), 0);
        due("month 10", x.holder(0, 300, 4, 0), 1);
        due("month 11", x.holder(0, 359, 4, 0), 1);
        due("another year's month 9", x.holder(0, 3599 - 61, 4, 0), 0);
        x.grant(0, 2, 0, 16 * 7 + 7, 16 * 4 + 6, 0, 3599, 0);
        due("month 3", x.holder(0, 119, 7, 0), 0);
        due("month 4", x.holder(0, 120, 7, 0), 2);
        due("month 6", x.holder(0, 209, 7, 0), 2);
        due("month 7", x.holder(0, 210, 7, 0), 0);
        x.grant(0, 3, 0, 16 * 9 + 9, 16 * 8 + 8, 0, 3599, 0);
        due("one month alone", x.holder(0, 240, 9, 0), 3);
        due("one month alone, ahead", x.holder(0, 239, 9, 0), 0);
        due("one month alone, behind", x.holder(0, 270, 9, 0), 0);
    }

    private static void orderOfGrants() {
        ShadeRegister x = town();
        x.wall(0, 0, 3);
        x.wall(20, 0, 3);
        x.grant(1, 2, 0, 11, 11, 0, 99, 0);
        due("giver not holder", x.holder(0, 0, 0, 0), 0);
        x.grant(0, 1, 0, 11, 11, 0, 99, 0);
        due("the earlier one doesn't follow", x.holder(0, 0, 0, 0), 1);
        x.grant(1, 3, 0, 11, 11, 5, 99, 1);
        due("giver is holder then", x.holder(0, 5, 0, 0), 3);
        x.grant(0, 4, 0, 11, 11, 0, 99, 0);
        due("sold twice", x.holder(0, 0, 0, 0), 1);
        x.grant(3, 0, 0, 11, 11, 6, 6, 1);
        x.grant(0, 4, 0, 11, 11, 6, 6, 1);
        due("back and on", x.holder(0, 6, 0, 0), 4);
        due("of this thing alone", x.holder(1, 6, 0, 0), 0);
    }

    private static void holdersRefused() {
        ShadeRegister x = town();
        x.days(5);
        x.wall(0, 0, 3);
        due("thing 1", x.holder(1, 5, 0, 5), NONE);
        due("thing -1", x.holder(-1, 5, 0, 5), NONE);
        due("day 3600", x.holder(0, 3600, 0, 5), NONE);
        due("hour 12", x.holder(0, 5, 12, 5), NONE);
        due("hour -1", x.holder(0, 5, -1, 5), NONE);
        due("known 3600", x.holder(0, 5, 0, 3600), NONE);
        due("known -1", x.holder(0, 5, 0, -1), NONE);
        due("ahead of from", x.holder(0, 4, 0, 5), NONE);
        due("known ahead of from", x.holder(0, 5, 0, 4), NONE);
        x.days(1);
        x.fell(0, 6);
        due("fallen", x.holder(0, 6, 0, 6), NONE);
        due("ahead of falling", x.holder(0, 5, 0, 6), 0);
        due("fall not known", x.holder(0, 6, 0, 5), 0);
    }

    private static void shade() {
        ShadeRegister x = town();
        x.wall(2, 0, 3);
        x.wall(4, 0, 5);
        due("its own cell", x.shaded(2, 0, 0, 0), 0);
        due("beside it", x.shaded(3, 0, 0, 0), 1);
        due("where the other stands", x.shaded(4, 0, 0, 0), 0);
        due("behind the other: both", x.shaded(5, 0, 0, 0), 3);
        due("behind the first's end", x.shaded(6, 0, 0, 0), 2);
        due("its last", x.shaded(9, 0, 0, 0), 2);
        due("none", x.shaded(10, 0, 0, 0), 0);
        due("no way around to the next row", x.shaded(16, 0, 0, 0), 0);
        x.sun(0, 1, -100, 0);
        due("to the left", x.shaded(0, 0, 1, 0), 3);
        due("not beyond the edge", x.shadow(1, 0, 1, 0), 3);
        x.days(3);
        x.fell(1, 3);
        due("where the other stood", x.shaded(4, 3, 0, 3), 1);
        due("where it stood, as known ahead", x.shaded(4, 3, 0, 2), 0);
        due("as known ahead", x.shaded(9, 3, 0, 2), 2);
        due("as known now", x.shaded(9, 3, 0, 3), 0);
        x.wall(3, 0, 0);
        due("one of height 0 stands too", x.shaded(3, 3, 0, 3), 0);
        due("but gives no shade", x.shadow(2, 3, 0, 3), 0);
    }

    private static void twelveAtMost() {
        ShadeRegister x = town();
        for (int i = 0; i < 14; i++) {
            x.wall(i, i == 12 ? 1 : i == 0 ? 2 : 0, 15);
        }
        due("the first twelve", x.shaded(14, 0, 0, 0), (1 << 12) - 1);
        due("the thirteenth has none", x.parts(1, 14, 0, 0, 0), 0);
        due("the first has its part", x.parts(2, 14, 0, 0, 0), 2310);
        due("eleven others", x.parts(0, 14, 0, 0, 0), 11 * 2310);
        due("but its shadow has the cells", x.shadow(12, 0, 0, 0), 2);
        x.fell(3, 0);
        due("one less", x.shaded(14, 0, 0, 0), (1 << 13) - 1 - 8);
        due("the thirteenth is now one", x.parts(1, 14, 0, 0, 0), 2310);
    }

    private static void shadeRefused() {
        ShadeRegister x = town();
        x.wall(0, 0, 3);
        due("shaded: cell 64", x.shaded(64, 0, 0, 0), NONE);
        due("shaded: cell -1", x.shaded(-1, 0, 0, 0), NONE);
        due("shaded: day 3600", x.shaded(1, 3600, 0, 0), NONE);
        due("shaded: day -1", x.shaded(1, -1, 0, 0), NONE);
        due("shaded: hour 12", x.shaded(1, 0, 12, 0), NONE);
        due("shaded: hour -1", x.shaded(1, 0, -1, 0), NONE);
        due("shaded: known 3600", x.shaded(1, 0, 0, 3600), NONE);
        due("shaded: known -1", x.shaded(1, 0, 0, -1), NONE);
        due("parts: person 5", x.parts(5, 1, 0, 0, 0), NONE);
        due("parts: person -1", x.parts(-1, 1, 0, 0, 0), NONE);
        due("parts: cell 64", x.parts(0, 64, 0, 0, 0), NONE);
        due("parts: day 3600", x.parts(0, 1, 3600, 0, 0), NONE);
        due("parts: hour 12", x.parts(0, 1, 0, 12, 0), NONE);
        due("parts: known -1", x.parts(0, 1, 0, 0, -1), NONE);
        due("shadow: thing 1", x.shadow(1, 0, 0, 0), NONE);
        due("shadow: thing -1", x.shadow(-1, 0, 0, 0), NONE);
        due("shadow: day -1", x.shadow(0, -1, 0, 0), NONE);
        due("shadow: hour -1", x.shadow(0, 0, -1, 0), NONE);
        due("shadow: known 3600", x.shadow(0, 0, 0, 3600), NONE);
    }

    private static void parts() {
        ShadeRegister x = town();
        x.wall(0, 0, 9);
        x.wall(1, 1, 9);
        x.wall(2, 0, 9);
        due("a third for each thing", x.parts(0, 5, 0, 0, 0), 2 * 9240);
        due("the other's", x.parts(1, 5, 0, 0, 0), 9240);
        due("nobody's", x.parts(2, 5, 0, 0, 0), 0);
        due("on a cell that isn't open", x.parts(0, 1, 0, 0, 0), 0);
        x.grant(0, 2, 2, 0, 11, 0, 9, 1);
        due("by a lease", x.parts(2, 5, 9, 0, 0), 9240);
        due("behind the lease", x.parts(2, 5, 10, 0, 0), 0);
        x.cloud(9, 0);
        due("in clouds", x.parts(2, 5, 9, 0, 0), 0);
    }

    private static void shadows() {
        ShadeRegister x = town();
        x.days(3);
        x.wall(0, 0, 60);
        due("up to the edge", x.shadow(0, 3, 0, 3), 15);
        x.wall(5, 0, 1);
        due("open ones alone", x.shadow(0, 3, 0, 3), 14);
        due("ahead of from", x.shadow(0, 2, 0, 3), 0);
        x.sun(0, 2, 10, 0);
        due("each once, not its own", x.shadow(0, 3, 2, 3), 5);
        x.sun(0, 3, 49, 49);
        // From (50, 50) by 49: (99, 99) is its own, (148, 148), .., (393, 393) with 7.
        due("aslant", x.shadow(0, 3, 3, 3), 3);
        x.sun(0, 4, 50, 0);
        due("right at a cell's edge", x.shaded(1, 3, 4, 3), 1);
        x.sun(0, 4, -50, 0);
        due("right at its own edge", x.shadow(1, 3, 4, 3), 0);
        x.sun(0, 4, -51, 0);
        due("beyond its own edge", x.shadow(1, 3, 4, 3), 1);
        x.sun(0, 4, -51, -51);
        due("beyond the ground's edge", x.shadow(1, 3, 4, 3), 0);
        x.wall(17, 0, 9);
        x.sun(0, 4, -150, 0);
        due("right at the left edge", x.shadow(2, 3, 4, 3), 1);
        x.sun(0, 4, -75, 0);
        due("right at the left edge, with two", x.shaded(16, 3, 4, 3), 4);
        x.sun(0, 4, 0, -150);
        x.fell(1, 3);
        x.wall(33, 0, 1);
        due("up", x.shaded(17, 3, 4, 3), 0);
        due("right at the upper edge", x.shaded(1, 3, 4, 3), 4);
        x.sun(0, 5, 145, 25);
        // From (150, 150): (1600, 400) with 10 is beyond the corner, (1455, 375) with 9 isn't.
        due("nine, at the lower right", x.shadow(2, 3, 5, 3), 9);
        x.raise(2, 3, 10);
        due("ten, at the lower right", x.shadow(2, 3, 5, 3), 9);
        x.wall(46, 0, 1);
        x.sun(0, 5, 150, 0);
        due("right at the right edge", x.shadow(4, 3, 5, 3), 0);
        x.sun(0, 5, 149, 0);
        due("the last but one hundredth", x.shadow(4, 3, 5, 3), 1);
        x.sun(0, 5, 0, 150);
        due("right at the lower edge", x.shadow(4, 3, 5, 3), 0);
        x.sun(0, 5, 0, 149);
        due("the last but one hundredth, down", x.shaded(62, 3, 5, 3), 16);
    }

    private static void accounts() {
        ShadeRegister x = town();
        x.wall(0, 0, 2);
        x.wall(16, 1, 4);
        due("one day", x.account(0, 7, 7, 0), 2 * 27720);
        due("sixty days", x.account(1, 0, 59, 0), 60L * 4 * 27720);
        due("sixty-one days", x.account(1, 0, 60, 0), NONE);
        due("none", x.account(2, 0, 59, 0), 0);
        x.cloud(3, 0);
        due("a day in clouds", x.account(0, 3, 4, 0), 2 * 27720);
        x.grant(0, 2, 0, 0, 11, 5, 6, 1);
        due("by a lease", x.account(2, 0, 59, 0), 2 * 2 * 27720);
        due("what is left", x.account(0, 0, 59, 0), 57 * 2 * 27720);
        due("account: person 5", x.account(5, 0, 0, 0), NONE);
        due("account: person -1", x.account(-1, 0, 0, 0), NONE);
        due("account: to below from", x.account(0, 1, 0, 0), NONE);
        due("account: from -1", x.account(0, -1, 0, 0), NONE);
        due("account: to 3600", x.account(0, 3599, 3600, 0), NONE);
        due("account: known 3600", x.account(0, 0, 0, 3600), NONE);
        due("account: known -1", x.account(0, 0, 0, -1), NONE);
        due("account: the last days", x.account(0, 3540, 3599, 0), 60 * 2 * 27720);
        due("account: far apart", x.account(0, 0, Integer.MAX_VALUE, 0), NONE);
    }

    private static void accountsAsKnown() {
        ShadeRegister x = town();
        x.wall(0, 0, 2);
        x.days(5);
        x.raise(0, 3, 4);
        due("as known now", x.account(0, 2, 3, 5), 6 * 27720);
        due("as known ahead", x.account(0, 2, 3, 4), 4 * 27720);
        x.sun(0, 5, 0, 100);
        due("another hour too", x.account(0, 2, 3, 4), 8 * 27720);
    }

    private static void bills() {
        ShadeRegister x = town();
        x.wall(0, 0, 2);
        x.wall(1, 1, 5);
        // Thing 0 has cell 2 with thing 1; raised to 4 it has 2, 3 and 4 with it, so half of each.
        due("what it gives", x.bill(0, 4, 0, 0), 360L * 2 * 13860);
        due("what it takes", x.bill(0, 4, 0, 1), -360L * 2 * 13860);
        due("of no one else", x.bill(0, 4, 0, 2), 0);
        due("its own height", x.bill(0, 2, 0, 0), 0);
        due("lower", x.bill(0, 0, 0, 0), -360L * 13860);
        due("lower, for the other", x.bill(0, 0, 0, 1), 360L * 13860);
        due("nothing is told", x.thing(0, 4), 1);
        due("nothing is changed", x.height(0, 0, 0), 2);
        x.grant(0, 3, 0, 0, 16 * 2 + 3, 0, 0, 0);
        due("two months' holder", x.bill(0, 4, 15, 3), 60L * 2 * 13860);
        due("the owner's others", x.bill(0, 4, 15, 0), 300L * 2 * 13860);
        x.cloud(75, 0);
        due("clouds on one of its days", x.bill(0, 4, 15, 3), 30L * 2 * 13860);
        due("clouds on another day", x.bill(0, 4, 16, 3), 60L * 2 * 13860);
    }

    private static void billsOfMoving() {
        ShadeRegister x = town();
        x.tree(0, 0, 1, 30);
        x.wall(16, 1, 1);
        x.raise(1, 60, 3);
        // Later entries stay: of walls only days 0 and 30 have the height that is asked about.
        due("up to a later entry", x.bill(1, 5, 0, 1), 30L * 2 * 4 * 27720);
        // A tree of height 4 instead of 1 is 3 higher on each of the twelve days, 15 cells at most: 1 .. 12 and 4 .. 15.
        due("it grows from there", x.bill(0, 4, 0, 0), 30L * 12 * 3 * 27720);
        due("from a later day on", x.bill(0, 4, 90, 0), 0);
        for (int i = 3; i <= 40; i++) {
            x.raise(1, 60, 3);
        }
        due("forty entries", x.thing(1, 4), 40);
        due("one more though forty are there", x.bill(1, 5, 60, 1), 30L * 12 * 2 * 27720);
        due("forty still", x.thing(1, 4), 40);
        x.days(65);
        x.fell(1, 65);
        due("ahead of falling", x.bill(1, 5, 60, 1), 30L * 2 * 27720);
        due("from the fall on", x.bill(1, 5, 65, 1), 0);
    }

    private static void billsRefused() {
        ShadeRegister x = town();
        x.days(5);
        x.wall(0, 0, 2);
        due("bill", x.bill(0, 3, 5, 0), 360L * 27720);
        due("bill: last day", x.bill(0, 3, 3269, 0), 360L * 27720);
        due("bill: day 3270", x.bill(0, 3, 3270, 0), 0);
        due("bill: ahead of from", x.bill(0, 3, 4, 0), 0);
        due("bill: thing 1", x.bill(1, 3, 5, 0), 0);
        due("bill: thing -1", x.bill(-1, 3, 5, 0), 0);
        due("bill: height 61", x.bill(0, 61, 5, 0), 0);
        due("bill: height -1", x.bill(0, -1, 5, 0), 0);
        due("bill: person 5", x.bill(0, 3, 5, 5), 0);
        due("bill: person -1", x.bill(0, 3, 5, -1), 0);
        x.fell(0, 5);
        due("bill: fallen", x.bill(0, 3, 5, 0), 0);
    }
}
