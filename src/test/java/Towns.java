/** Objects that the tests of bounds begin with. */
final class Towns {
    private Towns() {
    }

    /** A ground without persons; the sun stands over every cell in every hour, so that no wall has any shade. */
    static ShadeRegister still(int wide, int high) {
        ShadeRegister x = new ShadeRegister(wide, high);
        for (int month = 0; month < 12; month++) {
            for (int hour = 0; hour < 12; hour++) {
                x.sun(month, hour, 0, 0);
            }
        }
        return x;
    }

    /** Ten by six cells, persons 0 .. 2; shade in hour 0 alone, a cell to the right for one of height. */
    static ShadeRegister flat() {
        return flat(10, 6, 3);
    }

    static ShadeRegister flat(int wide, int high, int persons) {
        ShadeRegister x = still(wide, high);
        for (int month = 0; month < 12; month++) {
            x.sun(month, 0, 100, 0);
        }
        for (int i = 0; i < persons; i++) {
            x.person();
        }
        return x;
    }

    /** A flat town with wall 0, of height 3, on cell 0, and stall 0 on all days. */
    static ShadeRegister walled() {
        ShadeRegister x = flat();
        x.wall(0, 0, 3);
        x.stall(0, 0, 3599);
        return x;
    }

    /** Something of each kind, on day 10: what a refused call could spoil. */
    static ShadeRegister rich() {
        ShadeRegister x = new ShadeRegister(10, 6);
        for (int i = 0; i < 3; i++) {
            x.person();
        }
        for (int month = 0; month < 12; month++) {
            x.sun(month, 0, 100, 0);
        }
        x.days(5);
        x.wall(0, 0, 3);
        x.tree(12, 1, 2, 10);
        x.pole(44, 2, 1, 10, -10);
        x.days(5);
        x.raise(0, 8, 4);
        x.measure(0, 0, 4);
        x.grant(0, 1, 0, 11, 11, 0, 99, 1);
        x.cloud(20, 3);
        x.stall(0, 8, 20);
        x.place(0, 2, 30);
        read(x, "give height;");
        x.walk(10, 0, 50, 1, 51);
        x.feed(0x67697665, 0x20686569, 0x6768742a, 0x323b2020, 0x20202020);
        return x;
    }

    /** A rich town in which wall 0 fell on day 9, as told on day 10. */
    static ShadeRegister fallen() {
        ShadeRegister x = rich();
        x.fell(0, 9);
        return x;
    }

    static void read(ShadeRegister x, String text) {
        TariffTest.feed(x, text);
        x.tariff();
    }
}
