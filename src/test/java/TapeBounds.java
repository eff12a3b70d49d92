/** The bounds that promises 23 to 27 name. */
final class TapeBounds {
    private static final int NONE = ShadeRegister.NONE;
    private static final int LEAST = Integer.MIN_VALUE;
    private static final int MOST = Integer.MAX_VALUE;
    private static final int NO_GIFT = -2000000000;

    private final Bounds b;

    private TapeBounds(Bounds b) {
        this.b = b;
    }

    static void all(Bounds b) {
        TapeBounds t = new TapeBounds(b);
        t.feed();
        t.orderOfBytes();
        t.end();
        t.tariff();
        t.fault();
        t.gives();
    }

    /** A rich town with a tape of so many bytes. */
    private static ShadeRegister taped(int bytes) {
        ShadeRegister x = Towns.rich();
        while (x.about(9) < bytes) {
            x.feed(0, 0, 0, 0, 0);
        }
        x.end(bytes);
        return x;
    }

    private void feed() {
        b.of("Twenty bytes come behind the tape, the highest of a first: how many it has. NONE, and none come, if there would "
            + "be more than 400.");
        ShadeRegister x = new ShadeRegister(4, 4);
        for (int i = 1; i <= 20; i++) {
            b.due("feed " + i, x.feed(0, 0, 0, 0, 0), 20 * i);
        }
        b.refused(() -> taped(400), "of 400", y -> y.feed(0, 0, 0, 0, 0), NONE);
        b.refused(() -> taped(399), "of 399", y -> y.feed(0, 0, 0, 0, 0), NONE);
        b.refused(() -> taped(381), "of 381", y -> y.feed(0, 0, 0, 0, 0), NONE);
        b.due("of 380", taped(380).feed(0, 0, 0, 0, 0), 400);
        b.due("of 379", taped(379).feed(0, 0, 0, 0, 0), 399);
        b.due("of 1", taped(1).feed(0, 0, 0, 0, 0), 21);
        b.due("of none", taped(0).feed(0, 0, 0, 0, 0), 20);
        ShadeRegister y = taped(381);
        y.feed(0, 0, 0, 0, 0);
        b.due("none came", y.about(9), 381);
    }

    /** Each of the twenty bytes is seen by the fault at its place: all others are blanks. */
    private void orderOfBytes() {
        for (int place = 0; place < 20; place++) {
            for (int sign : new int[] {'!', 0, 127, 128, 255}) {
                int[] words = {0x20202020, 0x20202020, 0x20202020, 0x20202020, 0x20202020};
                int shift = 24 - 8 * (place % 4);
                words[place / 4] = words[place / 4] & ~(255 << shift) | sign << shift;
                ShadeRegister x = new ShadeRegister(4, 4);
                x.feed(0x20202020, 0x20202020, 0x20202020, 0x20202020, 0x20202020);
                b.due("behind the tape", x.feed(words[0], words[1], words[2], words[3], words[4]), 40);
                b.due("byte " + place + " is " + sign, x.tariff(), NONE);
                b.due("byte " + place + " is " + sign + ": its place", x.fault(1), 20 + place);
            }
        }
    }

    private void end() {
        b.of("The tape has its first n bytes alone: n. NONE, and nothing is done, if it has not so many, or n is below 0.");
        b.due("as many as it has", Towns.rich().end(20), 20);
        b.due("one less", Towns.rich().end(19), 19);
        b.due("none", Towns.rich().end(0), 0);
        b.due("none of none", new ShadeRegister(4, 4).end(0), 0);
        b.due("one of none", new ShadeRegister(4, 4).end(1), NONE);
        b.due("400 of 400", taped(400).end(400), 400);
        b.due("401 of 400", taped(400).end(401), NONE);
        for (int n : new int[] {21, 400, -1, LEAST, MOST}) {
            b.refused("end " + n, x -> x.end(n), NONE);
        }
        ShadeRegister x = Towns.rich();
        x.end(5);
        b.due("what was cut off is gone", x.end(6), NONE);
        b.due("it has five", x.about(9), 5);
        // "give height*2;" and blanks: its first thirteen bytes lack the semicolon.
        ShadeRegister y = Towns.rich();
        y.end(14);
        b.due("fourteen bytes", y.tariff(), 1);
        ShadeRegister z = Towns.rich();
        z.end(13);
        b.due("thirteen bytes", z.tariff(), NONE);
        b.due("thirteen bytes: at the end", z.fault(1), 13);
        ShadeRegister w = Towns.rich();
        w.end(14);
        w.feed(0x67697665, 0x20333b20, 0x20202020, 0x20202020, 0x20202020);
        b.due("what comes behind it", w.tariff(), 2);
    }

    private void tariff() {
        b.of("The tape (empty then) becomes THE TARIFF: how many RULES. NONE: it has a FAULT, the former one stays.");
        ShadeRegister x = Towns.rich();
        b.due("one rule", x.tariff(), 1);
        b.due("the tape is empty then", x.about(9), 0);
        b.due("gives by it", x.gives(0, 0, 6, 0, 0, 0), 12);
        b.due("of an empty tape", x.tariff(), 0);
        b.due("gives by no rule", x.gives(0, 0, 6, 0, 0, 0), 0);
        b.due("rules", x.about(8), 0);
        ShadeRegister y = Towns.rich();
        y.end(12);
        b.due("with a fault", y.tariff(), NONE);
        b.due("with a fault the tape is empty too", y.about(9), 0);
        b.due("the former one stays", y.gives(0, 0, 6, 0, 0, 0), 6);
        b.due("its rules stay", y.about(8), 1);
        TariffTest.feed(y, "give 1;".repeat(20));
        b.due("twenty rules", y.tariff(), 20);
        TariffTest.feed(y, "give 2;".repeat(21));
        b.due("21 rules", y.tariff(), NONE);
        b.due("twenty stay", y.about(8), 20);
        b.due("they give", y.gives(0, 0, 0, 0, 0, 0), 1);
        TariffTest.feed(y, "give 3; give 100001;");
        b.due("a fault behind a rule", y.tariff(), NONE);
        b.due("the former still", y.gives(0, 0, 0, 0, 0, 0), 1);
        ShadeRegister z = new ShadeRegister(4, 4);
        TariffTest.feed(z, "!");
        b.due("the first one is faulty", z.tariff(), NONE);
        b.due("none was there, none is", z.about(8), 0);
        b.due("it gives nothing", z.gives(0, 0, 0, 0, 0, 0), 0);
    }

    private void fault() {
        b.of("Of the latest tariff(): 0 its FAULT (0 without), 1 its place (NONE without). NONE for others, and ahead of any.");
        ShadeRegister x = new ShadeRegister(4, 4);
        b.due("0 ahead of any", x.fault(0), NONE);
        b.due("1 ahead of any", x.fault(1), NONE);
        x.tariff();
        b.due("0 without", x.fault(0), 0);
        b.due("1 without", x.fault(1), NONE);
        String[] texts = {"!", "give 100001;", "give " + "(".repeat(11), "give 1;".repeat(21)};
        int[] places = {0, 5, 15, 140};
        for (int i = 0; i < 4; i++) {
            TariffTest.feed(x, texts[i]);
            b.due("the former's while it isn't read: " + i, x.fault(0), i);
            x.tariff();
            b.due("fault " + (i + 1), x.fault(0), i + 1);
            b.due("its place", x.fault(1), places[i]);
        }
        for (int what : new int[] {-1, 2, LEAST, MOST}) {
            b.due("fault " + what, x.fault(what), NONE);
        }
        TariffTest.feed(x, "give 1;");
        x.tariff();
        b.due("0 without again", x.fault(0), 0);
        b.due("1 without again", x.fault(1), NONE);
        for (int what : new int[] {-1, 2, LEAST, MOST}) {
            b.refused("without a fault " + what, y -> y.fault(what), NONE);
            b.due("ahead of any " + what, new ShadeRegister(4, 4).fault(what), NONE);
        }
    }

    private void gives() {
        b.of("What THE TARIFF gives with these (each -1000000 to 1000000; day and stall 0). -2000000000 for others.");
        String[] names = {"hour", "month", "height", "many", "kind", "thing"};
        for (int i = 0; i < 6; i++) {
            ShadeRegister x = new ShadeRegister(4, 4);
            Towns.read(x, "give " + names[i] + ";");
            for (int value : new int[] {-1000000, -1, 0, 1, 1000000}) {
                b.due(names[i] + " " + value, ask(x, i, value), value);
            }
            for (int value : new int[] {-1000001, 1000001, LEAST, MOST}) {
                b.due(names[i] + " " + value, ask(x, i, value), NO_GIFT);
                int place = i;
                b.refused(names[i] + " is " + value, y -> ask(y, place, value), NO_GIFT);
                b.due("without rules, " + names[i] + " " + value, ask(new ShadeRegister(4, 4), i, value), NO_GIFT);
            }
        }
        ShadeRegister y = new ShadeRegister(4, 4);
        y.days(17);
        Towns.read(y, "give day*100+stall;");
        b.due("day and stall are 0", y.gives(1, 2, 3, 4, 5, 6), 0);
        giveBehindOthers();
        Towns.read(y, "give -100000*100000;");
        b.due("the least of all", y.gives(0, 0, 0, 0, 0, 0), -1000000000);
        Towns.read(y, "give hour*month;");
        b.due("no more than", y.gives(1000000, 1000000, 0, 0, 0, 0), 1000000000);
        b.due("no less than", y.gives(1000000, -1000000, 0, 0, 0, 0), -1000000000);
        b.due("without rules", new ShadeRegister(4, 4).gives(1000000, -1000000, 0, 0, 0, 0), 0);
    }

    /** Charges have a day and a stall; what is asked for behind them has not. */
    private void giveBehindOthers() {
        ShadeRegister x = Towns.walled();
        x.stall(0, 0, 3599);
        x.place(1, 0, 1);
        Towns.read(x, "give day*100+stall;");
        b.due("fees by day and stall", x.fees(1, 17, NONE), 1701);
        b.due("day and stall are 0 behind fees", x.gives(1, 2, 3, 4, 5, 6), 0);
        b.due("a walk", x.walk(17, 0, 2, 0, 2), 0);
        b.due("its charges", x.walked(NONE), 1699);
        b.due("day and stall are 0 behind a walk", x.gives(1, 2, 3, 4, 5, 6), 0);
    }

    private static int ask(ShadeRegister x, int place, int value) {
        int[] n = new int[6];
        n[place] = value;
        return x.gives(n[0], n[1], n[2], n[3], n[4], n[5]);
    }
}
