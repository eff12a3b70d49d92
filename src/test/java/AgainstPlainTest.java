import java.util.Random;

/** Long runs of calls, by numbers from fixed seeds, asked of ShadeRegister and of PlainRegister alike. */
public final class AgainstPlainTest {
    private static final int RUNS = 1200;
    /** An object is made for this many calls; the longest step of a run, a text, takes up to thirty. */
    private static final int CALLS = 512;
    private static final int CALLS_OF_STEP = 30;
    private static final int TEXTS = 6000;
    private static final int TEXTS_OF_ONE = CALLS / CALLS_OF_STEP;

    private final Random random;
    private final ShadeRegister real;
    private final PlainRegister plain;
    private final Check check;
    private final String run;
    private int asked;

    private AgainstPlainTest(Check check, long seed) {
        random = new Random(seed);
        boolean small = seed % 2 == 1;
        int wide = small ? 4 + random.nextInt(5) : random.nextInt(22) - 1;
        int high = small ? 4 + random.nextInt(2) : random.nextInt(16) - 1;
        real = new ShadeRegister(wide, high);
        plain = new PlainRegister(wide, high);
        this.check = check;
        run = "run " + seed + " ";
    }

    public static void main(String[] args) {
        Check check = new Check("AgainstPlainTest");
        for (int seed = 0; seed < RUNS; seed++) {
            AgainstPlainTest test = new AgainstPlainTest(check, seed);
            if (seed % 2 == 0) {
                test.calls();
            } else {
                test.market();
            }
        }
        for (int i = 0; i < TEXTS; i += TEXTS_OF_ONE) {
            AgainstPlainTest texts = new AgainstPlainTest(check, RUNS + i);
            for (int j = 0; j < TEXTS_OF_ONE; j++) {
                texts.text();
            }
        }
        check.end();
    }

    private boolean hasCallsLeft() {
        return asked + CALLS_OF_STEP <= CALLS;
    }

    private void due(String call, long got, long want, int... args) {
        asked++;
        StringBuilder told = new StringBuilder(run).append(call);
        for (int arg : args) {
            told.append(' ').append(arg);
        }
        check.due(told.toString(), got, want);
    }

    private static long bit(boolean b) {
        return b ? 1 : 0;
    }

    /** A number of low .. top, and now and then one from beyond or from the ends of int. */
    private int number(int low, int top) {
        int way = random.nextInt(60);
        if (way == 0) {
            return low - 1;
        }
        if (way == 1) {
            return top + 1;
        }
        if (way == 2) {
            return random.nextInt();
        }
        if (way == 3) {
            return random.nextBoolean() ? Integer.MIN_VALUE : Integer.MAX_VALUE;
        }
        if (way < 8) {
            return random.nextBoolean() ? low : top;
        }
        return top < low ? low : low + random.nextInt(top - low + 1);
    }

    private int day() {
        int way = random.nextInt(8);
        if (way == 0) {
            return number(0, 3599);
        }
        return Math.max(-1, Math.min(3600, plain.clock + number(-40, 40)));
    }

    private int known() {
        return random.nextInt(3) == 0 ? day() : plain.clock;
    }

    private int hour() {
        return number(0, 11);
    }

    private int cell() {
        return number(0, plain.wide * plain.high - 1);
    }

    private int person() {
        return number(0, Math.min(4, plain.persons.size() - 1));
    }

    private int thing() {
        return number(0, plain.things.size() - 1);
    }

    private int stall() {
        return number(0, plain.stalls.size() - 1);
    }

    private int height() {
        return random.nextInt(4) == 0 ? number(0, 60) : number(0, 12);
    }

    private void calls() {
        for (int i = 0; i < 3; i++) {
            due("person", real.person(), plain.person());
        }
        while (hasCallsLeft()) {
            int way = random.nextInt(100);
            if (way < 38) {
                tell(random.nextInt(14));
            } else if (way < 90) {
                ask(random.nextInt(16));
            } else if (way < 92) {
                text();
            } else {
                stallsAndWalks(random.nextInt(7));
            }
        }
    }

    /** A small ground in deep shade with stalls and a tariff that asks for much, and mostly calls about these. */
    private void market() {
        for (int i = 0; i < 4; i++) {
            due("person", real.person(), plain.person());
        }
        for (int month = 0; month < 12; month++) {
            for (int hour = 0; hour < 12; hour++) {
                int ux = 40 * (random.nextInt(5) - 2);
                int uy = 30 * (random.nextInt(5) - 2);
                due("sun", bit(real.sun(month, hour, ux, uy)), bit(plain.sun(month, hour, ux, uy)), month, hour, ux, uy);
            }
        }
        int many = random.nextInt(3) == 0 ? 16 : 2 + random.nextInt(4);
        for (int i = 0; i < many; i++) {
            tell(4 + random.nextInt(3));
        }
        for (int i = 0; i < 5; i++) {
            due("stall", real.stall(0, 10 * i, 90), plain.stall(0, 10 * i, 90), 0, 10 * i, 90);
            for (int hour = 0; hour < 12; hour += 1 + random.nextInt(4)) {
                int c = cell();
                due("place", bit(real.place(i, hour, c)), bit(plain.place(i, hour, c)), i, hour, c);
            }
        }
        String[] texts = {
            "give height*many+thing;",
            "when hour<6 give 7-stall; when many>2 or kind=1 give height*thing; give -5;",
            "when stall=-1 and not[month=0] give day; give 100000*100000/(many+1);"};
        read(texts[random.nextInt(3)]);
        for (int i = 0; i < 150 && hasCallsLeft(); i++) {
            int way = random.nextInt(10);
            if (way < 5) {
                stallsAndWalks(random.nextInt(7));
            } else if (way < 8) {
                ask(random.nextInt(16));
            } else {
                tell(random.nextInt(14));
            }
        }
    }

    private void tell(int way) {
        int a = thing();
        int b = day();
        int c = height();
        int d = cell();
        int e = person();
        int f = hour();
        switch (way) {
            case 0:
                a = random.nextInt(6) == 0 ? number(1, 400) : number(1, 12);
                due("days", real.days(a), plain.days(a), a);
                break;
            case 1:
                a = number(0, 11);
                b = number(-300, 300);
                c = random.nextInt(3) == 0 ? number(-300, 300) : number(-20, 20);
                due("sun", bit(real.sun(a, f, b, c)), bit(plain.sun(a, f, b, c)), a, f, b, c);
                break;
            case 2:
                due("cloud", real.cloud(b, f), plain.cloud(b, f), b, f);
                break;
            case 3:
                if (random.nextInt(4) == 0) {
                    due("person", real.person(), plain.person());
                } else if (random.nextInt(4) == 0) {
                    due("died", bit(real.died(e, b)), bit(plain.died(e, b)), e, b);
                }
                break;
            case 4:
                due("wall", real.wall(d, e, c), plain.wall(d, e, c), d, e, c);
                break;
            case 5:
                a = random.nextBoolean() ? number(1, 20) : number(1, 999);
                due("tree", real.tree(d, e, c, a), plain.tree(d, e, c, a), d, e, c, a);
                break;
            case 6:
                a = number(-50, 50);
                b = number(-50, 50);
                due("pole", real.pole(d, e, c, a, b), plain.pole(d, e, c, a, b), d, e, c, a, b);
                break;
            case 7:
                due("raise", real.raise(a, b, c), plain.raise(a, b, c), a, b, c);
                break;
            case 8:
                if (random.nextInt(3) == 0) {
                    due("fell", bit(real.fell(a, b)), bit(plain.fell(a, b)), a, b);
                }
                break;
            case 9:
            case 10:
                d = tipOf(a, f, d);
                due("measure", real.measure(a, f, d), plain.measure(a, f, d), a, f, d);
                break;
            default:
                grant(a, b);
        }
    }

    /** Mostly a cell in which the tip of some height really lies. */
    private int tipOf(int thing, int hour, int cell) {
        if (!plain.isThing(thing) || hour < 0 || hour > 11 || random.nextInt(5) == 0) {
            return cell;
        }
        PlainRegister.Thing t = plain.things.get(thing);
        for (int tries = 0; tries < 10; tries++) {
            int j = 1 + random.nextInt(12);
            int x = plain.tip(t.cell, t.lx, t.ly, plain.clock, hour, j).get(0);
            int y = plain.tip(t.cell, t.lx, t.ly, plain.clock, hour, j).get(1);
            if (x >= 0 && x < plain.wide && y >= 0 && y < plain.high) {
                return y * plain.wide + x;
            }
        }
        return cell;
    }

    private void grant(int thing, int day) {
        int giver = random.nextBoolean() && plain.isThing(thing) ? plain.things.get(thing).owner : person();
        int taker = person();
        int a = random.nextInt(12);
        int b = Math.min(11, a + random.nextInt(12));
        int hours = random.nextInt(15) == 0 ? number(-1, 200) : 16 * a + b;
        int months = random.nextInt(15) == 0 ? number(-1, 200) : 16 * random.nextInt(12) + random.nextInt(12);
        int to = random.nextInt(10) == 0 ? day() : Math.min(3599, day + random.nextInt(60));
        int sort = number(0, 2);
        due("grant", real.grant(giver, taker, thing, hours, months, day, to, sort),
            plain.grant(giver, taker, thing, hours, months, day, to, sort),
            giver, taker, thing, hours, months, day, to, sort);
    }

    private void ask(int way) {
        int a = thing();
        int b = day();
        int c = hour();
        int k = known();
        int d = cell();
        int p = person();
        int i = number(0, 8);
        switch (way) {
            case 0:
                due("height", real.height(a, b, k), plain.height(a, b, k), a, b, k);
                break;
            case 1:
                due("thing", real.thing(a, i), plain.thing(a, i), a, i);
                break;
            case 2:
                c = number(0, 2);
                due("entry", real.entry(a, i, c), plain.entry(a, i, c), a, i, c);
                break;
            case 3:
            case 4:
                due("holder", real.holder(a, b, c, k), plain.holder(a, b, c, k), a, b, c, k);
                break;
            case 5:
            case 6:
            case 7:
                due("shaded", real.shaded(d, b, c, k), plain.shaded(d, b, c, k), d, b, c, k);
                break;
            case 8:
            case 9:
                due("parts", real.parts(p, d, b, c, k), plain.parts(p, d, b, c, k), p, d, b, c, k);
                break;
            case 10:
            case 11:
                due("shadow", real.shadow(a, b, c, k), plain.shadow(a, b, c, k), a, b, c, k);
                break;
            case 12:
                if (random.nextInt(4) == 0) {
                    int to = random.nextInt(20) == 0 ? b + number(0, 59) : b + number(0, 2);
                    due("account", real.account(p, b, to, k), plain.account(p, b, to, k), p, b, to, k);
                }
                break;
            case 13:
                if (random.nextInt(6) == 0) {
                    int h = height();
                    due("bill", real.bill(a, h, b, p), plain.bill(a, h, b, p), a, h, b, p);
                }
                break;
            default:
                i = number(0, 10);
                due("about", real.about(i), plain.about(i), i);
        }
    }

    private void stallsAndWalks(int way) {
        int a = stall();
        int b = day();
        int h = hour();
        int c = random.nextInt(8) == 0 ? -1 : cell();
        int p = random.nextBoolean() ? -1 : person();
        switch (way) {
            case 0:
                int to = random.nextInt(10) == 0 ? day() : Math.min(3599, b + random.nextInt(80));
                if (random.nextInt(3) == 0) {
                    p = person();
                    due("stall", real.stall(p, b, to), plain.stall(p, b, to), p, b, to);
                }
                break;
            case 1:
            case 2:
                due("place", bit(real.place(a, h, c)), bit(plain.place(a, h, c)), a, h, c);
                due("placeOf", real.placeOf(a, h), plain.placeOf(a, h), a, h);
                break;
            case 3:
                due("fees", real.fees(a, b, p), plain.fees(a, b, p), a, b, p);
                break;
            case 4:
                walk(b, h, c);
                break;
            default:
                int high = number(1, 60);
                due("best", real.best(b, high), plain.best(b, high), b, high);
                due("serves", real.serves(b, high), plain.serves(b, high), b, high);
        }
    }

    private void walk(int day, int fromHour, int from) {
        int toHour = random.nextInt(5) == 0 ? hour() : Math.min(11, fromHour + random.nextInt(6));
        int to = random.nextInt(3) == 0 ? cell() : from + random.nextInt(3) - 1;
        due("walk", real.walk(day, fromHour, from, toHour, to), plain.walk(day, fromHour, from, toHour, to),
            day, fromHour, from, toHour, to);
        for (int i = -2; i < 13; i++) {
            due("walked", real.walked(i), plain.walked(i), i);
        }
    }

    private void text() {
        StringBuilder made = new StringBuilder();
        int rules = random.nextInt(12) == 0 ? 18 + random.nextInt(6) : random.nextInt(5);
        for (int i = 0; i < rules; i++) {
            if (rules > 5) {
                made.append(random.nextInt(3) == 0 ? "when 1<2give 3;" : "give 4;");
            } else {
                rule(made, 3);
            }
        }
        int spoils = rules > 5 ? random.nextInt(2) : random.nextInt(3);
        for (int i = 0; i < spoils && made.length() > 0; i++) {
            spoil(made);
        }
        read(made.length() > 400 ? made.substring(0, 400) : made.toString());
    }

    private void read(String text) {
        for (int i = 0; i < text.length(); i += 20) {
            int[] w = new int[5];
            for (int j = 0; j < 20; j++) {
                int sign = i + j < text.length() ? text.charAt(i + j) : 32;
                w[j / 4] = w[j / 4] << 8 | sign;
            }
            due("feed", real.feed(w[0], w[1], w[2], w[3], w[4]), plain.feed(w[0], w[1], w[2], w[3], w[4]), w);
        }
        due("feed", real.end(text.length()), plain.end(text.length()), text.length());
        due("tariff of " + text, real.tariff(), plain.tariff());
        due("fault 0 of " + text, real.fault(0), plain.fault(0));
        due("fault 1 of " + text, real.fault(1), plain.fault(1));
        for (int i = 0; i < 3; i++) {
            int[] n = new int[6];
            for (int j = 0; j < 6; j++) {
                n[j] = random.nextInt(4) == 0 ? number(-1000000, 1000000) : number(-1, 12);
            }
            due("gives of " + text, real.gives(n[0], n[1], n[2], n[3], n[4], n[5]),
                plain.gives(n[0], n[1], n[2], n[3], n[4], n[5]), n);
        }
    }

    private void rule(StringBuilder to, int deep) {
        if (random.nextInt(4) != 0) {
            to.append("when ");
            either(to, deep);
        }
        to.append(" give ");
        sum(to, deep);
        to.append(random.nextInt(5) == 0 ? " ;\n" : ";");
    }

    private void either(StringBuilder to, int deep) {
        ask(to, deep);
        while (deep > 0 && random.nextInt(3) == 0) {
            to.append(random.nextBoolean() ? " or " : " and ");
            ask(to, deep - 1);
        }
    }

    private void ask(StringBuilder to, int deep) {
        int way = random.nextInt(6);
        if (way == 0) {
            for (int i = random.nextInt(12); i >= 0; i -= 3) {
                to.append("not ");
            }
            ask(to, deep - 1);
        } else if (way == 1 && deep > 0) {
            to.append('[');
            either(to, deep - 1);
            to.append(']');
        } else {
            sum(to, deep - 1);
            String[] signs = {"<", "<=", ">", ">=", "=", "#"};
            to.append(signs[random.nextInt(6)]);
            sum(to, deep - 1);
        }
    }

    private void sum(StringBuilder to, int deep) {
        one(to, deep);
        while (random.nextInt(3) == 0) {
            to.append("+-*/".charAt(random.nextInt(4)));
            one(to, deep - 1);
        }
    }

    private void one(StringBuilder to, int deep) {
        String[] names = {"hour", "month", "day", "height", "many", "kind", "thing", "stall"};
        int way = random.nextInt(10);
        if (way < 3 || deep <= 0) {
            to.append(random.nextInt(3) == 0 ? 99990 + random.nextInt(11) : random.nextInt(13));
        } else if (way < 7) {
            to.append(names[random.nextInt(8)]);
        } else if (way == 7) {
            int many = random.nextInt(20) == 0 ? 1 + random.nextInt(12) : 1;
            to.append("(".repeat(many));
            sum(to, deep - 1);
            to.append(")".repeat(many));
        } else if (way == 8) {
            to.append("-".repeat(random.nextInt(20) == 0 ? 1 + random.nextInt(12) : 1));
            one(to, deep - 1);
        } else {
            to.append(random.nextBoolean() ? "min(" : "max (");
            sum(to, deep - 1);
            to.append(',');
            sum(to, deep - 1);
            to.append(')');
        }
    }

    /** Cuts, doubles or changes something, so that faults of every kind come. */
    private void spoil(StringBuilder text) {
        int at = random.nextInt(text.length());
        String[] bits = {"(", "[", "not ", "-", "100001", "give ", "when ", "or ", "!", ";", ",", ")", "]", "x", "=",
            "min", "\t", "\u00e9", "0000007", "Hour", "<", " "};
        switch (random.nextInt(4)) {
            case 0:
                text.insert(at, bits[random.nextInt(bits.length)]);
                break;
            case 1:
                text.deleteCharAt(at);
                break;
            case 2:
                text.setLength(at);
                break;
            default:
                text.insert(at, bits[random.nextInt(5)].repeat(1 + random.nextInt(13)));
        }
    }
}
